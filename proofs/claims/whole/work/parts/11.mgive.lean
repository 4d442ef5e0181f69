theorem setO_lt (d : List Nat) (c : Nat) : ∀ n, setO d c n < 2 ^ n
  | 0 => by simp [setO]
  | n + 1 => by
    have := setO_lt d c n
    unfold setO
    split <;> omega
theorem so_1 {d : List Nat} {c i : Nat} (h : d.getD i 0 = c) : nI (setO d c i) ||| nI (2 ^ i) = nI (setO d c (i + 1)) := by
  rw [nI_or, or_pow (setO_lt d c i)]
  show _ = nI (_ + _)
  rw [if_pos h]
theorem so_0 {d : List Nat} {c i : Nat} (h : ¬ d.getD i 0 = c) : nI (setO d c i) ||| 0 = nI (setO d c (i + 1)) := by
  rw [or0]
  show _ = nI (_ + _)
  rw [if_neg h]
  rfl
set_option maxHeartbeats 4000000 in
set_option maxRecDepth 100000 in
theorem ok_m_setOf (l : Launch) (G : Nat → ClassId) (D : va_G) (base : Nat) {h : Hp} {nx m : Nat} {F : Nat → Int32} {A : Nat → Nat → Int32} {B : Nat → Int64} (hM : MO h m F A B) {n c : Nat} {d : List Nat} (hF : F 24 = nI n) (hn : n ≤ 6) (hc : c < 4) (hd : ∀ i, i < n → A 30 i = nI (d.getD i 0) ∧ d.getD i 0 < 4) : MetP l G D base miX5_setOf 0 0 0 [.ref m, .int (nI c)] h nx (Kv (.int (nI (setO d c n))) h nx) := by
  refine MetP_of (by decide +kernel) rfl ?_
  intro k g hr hR hcl hcg hcd hcb hcn hnx
  subst hcl; subst hcg; subst hcd; subst hcb
  have hM := MS.rf hM
  show Sf k 0 0 h nx 0 [some (.ref m), some (.int (nI c)), none, none] []
  have loop : ∀ e i, i + e = n → Sf k 0 0 h nx 4 [some (.ref m), some (.int (nI c)), some (.int (nI (setO d c i))), some (.int (nI i))] [] := by
    intro e
    induction e with
    | zero =>
      intro i hi
      have hi2 : i = n := by omega
      refine r_iload_n g dX5_setOf_4 rfl ?_
      refine r_aload_n g dX5_setOf_5 rfl ?_
      refine rm_get g hM fX5_130 rfl dX5_setOf_6 ?_
      refine r_topi (y := (nI n)) hF ?_
      refine r_icmp_ge 38 g dX5_setOf_9 (by decide) (fun c9 => ?_) (fun c9 => absurd (nI_le (by omega) (by omega)) c9)
      refine r_iload_n g dX5_setOf_38 rfl ?_
      exact r_iret g hr (Nat.le_refl _) (Nat.le_refl _) dX5_setOf_39 ⟨by rw [hi2], rfl, rfl⟩
    | succ e ih =>
      intro i hi
      refine r_iload_n g dX5_setOf_4 rfl ?_
      refine r_aload_n g dX5_setOf_5 rfl ?_
      refine rm_get g hM fX5_130 rfl dX5_setOf_6 ?_
      refine r_topi (y := (nI n)) hF ?_
      refine r_icmp_ge 38 g dX5_setOf_9 (by decide) (fun c9 => absurd c9 (nI_ge (by omega) (by omega))) (fun c9 => ?_)
      refine r_iload_n g dX5_setOf_12 rfl ?_
      refine r_aload_n g dX5_setOf_13 rfl ?_
      refine rm_get g hM fX5_81 rfl dX5_setOf_14 ?_
      refine r_iload_n g dX5_setOf_17 rfl ?_
      refine rm_iald 30 (j := i) g hM rfl (by decide) rfl rfl (show i < 6 by omega) dX5_setOf_18 ?_
      refine r_topi (y := (nI (d.getD i 0))) (hd i (by omega)).1 ?_
      refine r_iload_n g dX5_setOf_19 rfl ?_
      refine r_icmp_ne 29 g dX5_setOf_20 (by decide) (fun c20 => ?_) (fun c20 => ?_)
      · skip
        have q : ¬ d.getD i 0 = c := fun z => c20 (by rw [z])
        refine r_iconst (v := 0) g dX5_setOf_29 (by decide) ?_
        refine r_ior g dX5_setOf_30 ?_
        refine r_topi (y := (nI (setO d c (i + 1)))) (by first | exact so_1 q | exact so_0 q) ?_
        refine r_istore_n g dX5_setOf_31 rfl rfl rfl ?_
        refine r_iinc (v := (nI (i + 1))) g dX5_setOf_32 rfl (nI_add i 1) rfl rfl ?_
        refine r_goto 4 g dX5_setOf_35 (by decide) ?_
        exact ih (i + 1) (by omega)
      · skip
        have q := (nI_c (by have := (hd i (by omega)).2; omega) (by omega)).mp c20
        refine r_iconst (v := 1) g dX5_setOf_23 (by decide) ?_
        refine r_iload_n g dX5_setOf_24 rfl ?_
        refine r_ishl g dX5_setOf_25 ?_
        refine r_topi (y := (nI (2 ^ i))) (shl1 (by omega)) ?_
        refine r_goto 30 g dX5_setOf_26 (by decide) ?_
        refine r_ior g dX5_setOf_30 ?_
        refine r_topi (y := (nI (setO d c (i + 1)))) (by first | exact so_1 q | exact so_0 q) ?_
        refine r_istore_n g dX5_setOf_31 rfl rfl rfl ?_
        refine r_iinc (v := (nI (i + 1))) g dX5_setOf_32 rfl (nI_add i 1) rfl rfl ?_
        refine r_goto 4 g dX5_setOf_35 (by decide) ?_
        exact ih (i + 1) (by omega)
  refine r_iconst (v := 0) g dX5_setOf_0 (by decide) ?_
  refine r_istore_n g dX5_setOf_1 rfl rfl rfl ?_
  refine r_iconst (v := 0) g dX5_setOf_2 (by decide) ?_
  refine r_istore_n g dX5_setOf_3 rfl rfl rfl ?_
  exact loop n 0 (by omega)
theorem dig_at {n w i : Nat} (h : i < n) : (dig n w).getD i 0 = w / 4 ^ (n - 1 - i) % 4 := by
  unfold dig
  simp [List.getD, h]
theorem dig_lt {n w i : Nat} (h : i < n) : (dig n w).getD i 0 < 4 := by rw [dig_at h]; exact Nat.mod_lt _ (by decide)
theorem div4 (w a : Nat) : w / 4 ^ a / 4 = w / 4 ^ (a + 1) := by rw [Nat.div_div_eq_div_mul, Nat.pow_succ]
theorem nI_m1 {j : Nat} (hj : j < 2 ^ 31) : nI j - 1 < 0 ↔ j = 0 := by
  match j, hj with
  | 0, _ => exact ⟨fun _ => rfl, fun _ => by decide⟩
  | j + 1, hj =>
    rw [nI_pred]
    exact ⟨fun q => absurd q (nI_pos (by omega)), fun q => by omega⟩
theorem nI_dec (j : Nat) : nI (j + 1) - 1 = nI j := nI_pred j
theorem nI_dec2 (j : Nat) : nI j + (-1) = nI j - 1 := by rw [Int32.sub_eq_add_neg]
theorem upA_upA (A : Nat → Nat → Int32) (kf : Nat) (f f2 : Nat → Int32) : upA (upA A kf f) kf f2 = upA A kf f2 := by
  funext q; unfold upA; by_cases h : q = kf <;> simp [h]
theorem upA_self (A : Nat → Nat → Int32) (kf : Nat) : upA A kf (A kf) = A := by
  funext q; unfold upA; by_cases h : q = kf <;> simp [h]
set_option maxHeartbeats 4000000 in
set_option maxRecDepth 100000 in
theorem ok_m_deal (l : Launch) (G : Nat → ClassId) (D : va_G) (base : Nat) {h0 : Hp} {nx m : Nat} {F : Nat → Int32} {A : Nat → Nat → Int32} {B : Nat → Int64} (hM : MO h0 m F A B) (hbm : base ≤ m) {n w : Nat} (hF : F 24 = nI n) (hn : n ≤ 6) (hw : w < 2 ^ 31) : MetP l G D base miX5_deal 0 0 0 [.ref m, .int (nI w)] h0 nx (fun v h' nx' => v = none ∧ nx = nx' ∧ ∃ f, MS h0 h' m F (upA A 30 f) B ∧ ∀ q, q < n → f q = nI ((dig n w).getD q 0)) := by
  refine MetP_of (by decide +kernel) rfl ?_
  intro k g hr hR hcl hcg hcd hcb hcn hnx
  subst hcl; subst hcg; subst hcd; subst hcb
  have hM := MS.rf hM
  obtain ⟨h, hh⟩ : ∃ z, z = h0 := ⟨_, rfl⟩
  rw [← hh]
  have hM : MS h0 h m F A B := by rw [hh]; exact hM
  show Sf k 0 0 h nx 0 [some (.ref m), some (.int (nI w)), none, none] []
  have loop : ∀ j (f : Nat → Int32) (h : Hp), MS h0 h m F (upA A 30 f) B → j ≤ n → (∀ q, j ≤ q → q < n → f q = nI ((dig n w).getD q 0)) → Sf k 0 0 h nx 9 [some (.ref m), none, some (.int (nI (w / 4 ^ (n - j)))), some (.int (nI j - 1))] [] := by
    intro j
    induction j with
    | zero =>
      intro f h hM hj hf
      refine r_iload_n g dX5_deal_9 rfl ?_
      refine r_if_lt 32 g dX5_deal_10 (by decide) (fun c10 => ?_) (fun c10 => absurd ((nI_m1 (by omega)).mpr rfl) c10)
      exact r_vret g hr (Nat.le_refl _) (Nat.le_refl _) dX5_deal_32 ⟨rfl, rfl, f, hM, fun q hq => hf q (Nat.zero_le _) hq⟩
    | succ j ih =>
      intro f h hM hj hf
      have hw4 : w / 4 ^ (n - (j + 1)) < 2 ^ 31 := Nat.lt_of_le_of_lt (Nat.div_le_self _ _) (by omega)
      refine r_iload_n g dX5_deal_9 rfl ?_
      refine r_if_lt 32 g dX5_deal_10 (by decide) (fun c10 => absurd ((nI_m1 (by omega)).mp c10) (by omega)) (fun c10 => ?_)
      refine r_aload_n g dX5_deal_13 rfl ?_
      refine rm_get g hM fX5_81 rfl dX5_deal_14 ?_
      refine r_iload_n g dX5_deal_17 rfl ?_
      refine r_topi (y := (nI j)) (nI_dec j) ?_
      refine r_iload_n g dX5_deal_18 rfl ?_
      refine r_iconst (v := 4) g dX5_deal_19 (by decide) ?_
      refine r_irem g dX5_deal_20 (by decide) ?_
      refine r_topi (y := (nI (w / 4 ^ (n - (j + 1)) % 4))) (pk_rem (d := 4) hw4 (by decide) (by decide)) ?_
      refine rm_iast 30 (j := j) g hM hbm rfl (by decide) rfl rfl (show j < 6 by omega) dX5_deal_21 ?_
      intro h_1 hM
      refine r_iload_n g dX5_deal_22 rfl ?_
      refine r_iconst (v := 4) g dX5_deal_23 (by decide) ?_
      refine r_idiv g dX5_deal_24 (by decide) ?_
      refine r_topi (y := (nI (w / 4 ^ (n - (j + 1)) / 4))) (pk_div (d := 4) hw4 (by decide) (by decide)) ?_
      refine r_istore_n g dX5_deal_25 rfl rfl rfl ?_
      refine r_iinc (v := (nI j - 1)) g dX5_deal_26 rfl (by rw [nI_dec]; exact nI_dec2 j) rfl rfl ?_
      refine r_goto 9 g dX5_deal_29 (by decide) ?_
      rw [div4, show n - (j + 1) + 1 = n - j by omega]
      refine r_le (ls2 := [some (.ref m), none, some (.int (nI (w / 4 ^ (n - j)))), some (.int (nI j - 1))]) ⟨rfl, rfl, rfl, trivial⟩ ?_
      refine ih (upd f j (nI (w / 4 ^ (n - (j + 1)) % 4))) _ (by rw [← upA_upA]; exact hM) (by omega) (fun q h1 h2 => ?_)
      by_cases e : q = j
      · subst e; rw [pk_us, dig_at h2, show n - (q + 1) = n - 1 - q by omega]
      · rw [pk_un e]; exact hf q (by omega) h2
  refine r_iload_n g dX5_deal_0 rfl ?_
  refine r_istore_n g dX5_deal_1 rfl rfl rfl ?_
  refine r_aload_n g dX5_deal_2 rfl ?_
  refine rm_get g hM fX5_130 rfl dX5_deal_3 ?_
  refine r_topi (y := (nI n)) hF ?_
  refine r_iconst (v := 1) g dX5_deal_6 (by decide) ?_
  refine r_isub g dX5_deal_7 ?_
  refine r_topi (y := (nI n - 1)) rfl ?_
  refine r_istore_n g dX5_deal_8 rfl rfl rfl ?_
  refine r_le (ls2 := [some (.ref m), none, some (.int (nI (w / 4 ^ (n - n)))), some (.int (nI n - 1))]) ⟨rfl, by rw [Nat.sub_self, Nat.pow_zero, Nat.div_one], rfl, trivial⟩ ?_
  exact loop n (A 30) h (by rw [upA_self]; exact hM) (Nat.le_refl _) (fun q h1 h2 => by omega)
theorem nI_decb {b : Nat} (h : 0 < b) : nI b + (-1) = nI (b - 1) := by
  match b, h with
  | b + 1, _ => exact pk_m1 b
theorem nI_m2 {n : Nat} (h : 0 < n) : nI n - 2 = nI (n - 1) - 1 := by
  match n, h with
  | n + 1, _ =>
    show nI (n + 1) - 2 = nI n - 1
    rw [← nI_1 n]
    have : ∀ x : Int32, x + 1 - 2 = x - 1 := fun x => by
      rw [Int32.sub_eq_add_neg, Int32.add_assoc, show (1 : Int32) + -2 = -1 by decide, ← Int32.sub_eq_add_neg]
    exact this _
set_option maxHeartbeats 4000000 in
set_option maxRecDepth 100000 in
theorem ok_m_nextOrder (l : Launch) (G : Nat → ClassId) (D : va_G) (base : Nat) {h0 : Hp} {nx m : Nat} {F : Nat → Int32} {A : Nat → Nat → Int32} {B : Nat → Int64} (hM : MO h0 m F A B) (hbm : base ≤ m) {n : Nat} {o : Nat → Nat} (hn : n ≤ 6) (ho : ∀ q, q < n → A 29 q = nI (o q) ∧ o q < 2 ^ 31) : MetP l G D base miX5_nextOrder 0 0 0 [.ref m, .int (nI n)] h0 nx (fun v h' nx' => nx = nx' ∧ ∃ f, MS h0 h' m F (upA A 29 f) B ∧ (match nxtF o n with | none => v = some (.int 0) | some o2 => v = some (.int 1) ∧ ∀ q, q < n → f q = nI (o2 q))) := by
  refine MetP_of (by decide +kernel) rfl ?_
  intro k g hr hR hcl hcg hcd hcb hcn hnx
  subst hcl; subst hcg; subst hcd; subst hcb
  have hM := MS.rf hM
  obtain ⟨h, hh⟩ : ∃ z, z = h0 := ⟨_, rfl⟩
  rw [← hh]
  have hM : MS h0 h m F A B := by rw [hh]; exact hM
  show Sf k 0 0 h nx 0 [some (.ref m), some (.int (nI n)), none, none, none, none, none] []
  have loop3 : ∀ (fu a b : Nat) (o1 : Nat → Nat) (f : Nat → Int32) (h : Hp) (i j t : Int32), MS h0 h m F (upA A 29 f) B → b ≤ a + 2 * fu → b < n ∧ a ≤ n → (∀ q, q < n → f q = nI (o1 q)) → nxtF o n = some (revF fu o1 a b) → Sf k 0 0 h nx 100 [some (.ref m), some (.int (nI n)), some (.int i), some (.int j), some (.int t), some (.int (nI a)), some (.int (nI b))] [] := by
    intro fu
    induction fu with
    | zero =>
      intro a b o1 f h i j t hM hab hb hf hx
      refine r_iload g dX5_nextOrder_100 rfl ?_
      refine r_iload g dX5_nextOrder_102 rfl ?_
      refine r_icmp_ge 148 g dX5_nextOrder_104 (by decide) (fun c104 => ?_) (fun c104 => absurd (nI_le (by omega) (by omega)) c104)
      refine r_iconst (v := 1) g dX5_nextOrder_148 (by decide) ?_
      exact r_zret g hr (Nat.le_refl _) (Nat.le_refl _) dX5_nextOrder_149 rfl ⟨rfl, f, hM, by rw [hx]; exact ⟨rfl, hf⟩⟩
    | succ fu ih =>
      intro a b o1 f h i j t hM hab hb hf hx
      refine r_iload g dX5_nextOrder_100 rfl ?_
      refine r_iload g dX5_nextOrder_102 rfl ?_
      refine r_icmp_ge 148 g dX5_nextOrder_104 (by decide) (fun c104 => ?_) (fun c104 => ?_)
      · skip
        have q : ¬ a < b := fun z => absurd c104 (nI_ge z (by omega))
        rw [show revF (fu + 1) o1 a b = o1 from if_neg q] at hx
        refine r_iconst (v := 1) g dX5_nextOrder_148 (by decide) ?_
        exact r_zret g hr (Nat.le_refl _) (Nat.le_refl _) dX5_nextOrder_149 rfl ⟨rfl, f, hM, by rw [hx]; exact ⟨rfl, hf⟩⟩
      · skip
        have q : a < b := Nat.lt_of_not_le (fun z => c104 (nI_le z (by omega)))
        rw [show revF (fu + 1) o1 a b = revF fu (swp o1 a b) (a + 1) (b - 1) from if_pos q] at hx
        refine r_aload_n g dX5_nextOrder_107 rfl ?_
        refine rm_get g hM fX5_78 rfl dX5_nextOrder_108 ?_
        refine r_iload g dX5_nextOrder_111 rfl ?_
        refine rm_iald 29 (j := a) g hM rfl (by decide) rfl rfl (show a < 6 by omega) dX5_nextOrder_113 ?_
        refine r_topi (y := (f a)) rfl ?_
        refine r_istore g dX5_nextOrder_114 rfl rfl rfl ?_
        refine r_aload_n g dX5_nextOrder_116 rfl ?_
        refine rm_get g hM fX5_78 rfl dX5_nextOrder_117 ?_
        refine r_iload g dX5_nextOrder_120 rfl ?_
        refine r_aload_n g dX5_nextOrder_122 rfl ?_
        refine rm_get g hM fX5_78 rfl dX5_nextOrder_123 ?_
        refine r_iload g dX5_nextOrder_126 rfl ?_
        refine rm_iald 29 (j := b) g hM rfl (by decide) rfl rfl (show b < 6 by omega) dX5_nextOrder_128 ?_
        refine r_topi (y := (f b)) rfl ?_
        refine rm_iast 29 (j := a) g hM hbm rfl (by decide) rfl rfl (show a < 6 by omega) dX5_nextOrder_129 ?_
        intro h_1 hM
        refine r_aload_n g dX5_nextOrder_130 rfl ?_
        refine rm_get g hM fX5_78 rfl dX5_nextOrder_131 ?_
        refine r_iload g dX5_nextOrder_134 rfl ?_
        refine r_iload g dX5_nextOrder_136 rfl ?_
        refine rm_iast 29 (j := b) g hM hbm rfl (by decide) rfl rfl (show b < 6 by omega) dX5_nextOrder_138 ?_
        intro h_2 hM
        refine r_iinc (v := (nI (a + 1))) g dX5_nextOrder_139 rfl (nI_add a 1) rfl rfl ?_
        refine r_iinc (v := (nI (b - 1))) g dX5_nextOrder_142 rfl (nI_decb (by omega)) rfl rfl ?_
        refine r_goto 100 g dX5_nextOrder_145 (by decide) ?_
        simp only [upA_upA, upA_eq] at hM
        refine ih (a + 1) (b - 1) (swp o1 a b) (upd (upd f a (f b)) b (f a)) _ _ _ _ hM (by omega) ⟨by omega, by omega⟩ (fun r hr2 => ?_) hx
        unfold swp
        by_cases e : r = b
        · subst e; rw [pk_us, if_pos rfl]; exact hf a (by omega)
        · rw [pk_un e, if_neg e]
          by_cases e2 : r = a
          · subst e2; rw [pk_us, if_pos rfl]; exact hf b (by omega)
          · rw [pk_un e2, if_neg e2]; exact hf r hr2
  have loop2 : ∀ (i : Nat), ndI o (n - 1) = i + 1 → i + 1 < n → ∀ j, i ≤ j → j < n → ndJ o (o i) (n - 1) = ndJ o (o i) j → Sf k 0 0 h nx 41 [some (.ref m), some (.int (nI n)), some (.int (nI i)), some (.int (nI j)), none, none, none] [] := by
    intro i hi1 hi2 j
    induction j with
    | zero =>
      intro hij hj hJ
      refine r_aload_n g dX5_nextOrder_41 rfl ?_
      refine rm_get g hM fX5_78 rfl dX5_nextOrder_42 ?_
      refine r_iload_n g dX5_nextOrder_45 rfl ?_
      refine rm_iald 29 (j := 0) g hM rfl (by decide) rfl rfl (show 0 < 6 by omega) dX5_nextOrder_46 ?_
      refine r_topi (y := (nI (o 0))) (ho 0 (by omega)).1 ?_
      refine r_aload_n g dX5_nextOrder_47 rfl ?_
      refine rm_get g hM fX5_78 rfl dX5_nextOrder_48 ?_
      refine r_iload_n g dX5_nextOrder_51 rfl ?_
      refine rm_iald 29 (j := i) g hM rfl (by decide) rfl rfl (show i < 6 by omega) dX5_nextOrder_52 ?_
      refine r_topi (y := (nI (o i))) (ho i (by omega)).1 ?_
      refine r_icmp_ge 62 g dX5_nextOrder_53 (by decide) (fun c53 => ?_) (fun c53 => ?_)
      · skip
        have q : ¬ o (0) < o i := fun z => absurd c53 (nI_ge z (ho i (by omega)).2)
        have hJ2 : ndJ o (o i) (n - 1) = 0 := hJ
        refine r_aload_n g dX5_nextOrder_62 rfl ?_
        refine rm_get g hM fX5_78 rfl dX5_nextOrder_63 ?_
        refine r_iload_n g dX5_nextOrder_66 rfl ?_
        refine rm_iald 29 (j := i) g hM rfl (by decide) rfl rfl (show i < 6 by omega) dX5_nextOrder_67 ?_
        refine r_topi (y := (nI (o i))) (ho i (by omega)).1 ?_
        refine r_istore g dX5_nextOrder_68 rfl rfl rfl ?_
        refine r_aload_n g dX5_nextOrder_70 rfl ?_
        refine rm_get g hM fX5_78 rfl dX5_nextOrder_71 ?_
        refine r_iload_n g dX5_nextOrder_74 rfl ?_
        refine r_aload_n g dX5_nextOrder_75 rfl ?_
        refine rm_get g hM fX5_78 rfl dX5_nextOrder_76 ?_
        refine r_iload_n g dX5_nextOrder_79 rfl ?_
        refine rm_iald 29 (j := 0) g hM rfl (by decide) rfl rfl (show 0 < 6 by omega) dX5_nextOrder_80 ?_
        refine r_topi (y := (nI (o 0))) (ho 0 (by omega)).1 ?_
        refine rm_iast 29 (j := i) g hM hbm rfl (by decide) rfl rfl (show i < 6 by omega) dX5_nextOrder_81 ?_
        intro h_3 hM
        refine r_aload_n g dX5_nextOrder_82 rfl ?_
        refine rm_get g hM fX5_78 rfl dX5_nextOrder_83 ?_
        refine r_iload_n g dX5_nextOrder_86 rfl ?_
        refine r_iload g dX5_nextOrder_87 rfl ?_
        refine rm_iast 29 (j := 0) g hM hbm rfl (by decide) rfl rfl (show 0 < 6 by omega) dX5_nextOrder_89 ?_
        intro h_4 hM
        refine r_iload_n g dX5_nextOrder_90 rfl ?_
        refine r_iconst (v := 1) g dX5_nextOrder_91 (by decide) ?_
        refine r_iadd g dX5_nextOrder_92 ?_
        refine r_topi (y := (nI (i + 1))) (nI_add i 1) ?_
        refine r_istore g dX5_nextOrder_93 rfl rfl rfl ?_
        refine r_iload_n g dX5_nextOrder_95 rfl ?_
        refine r_iconst (v := 1) g dX5_nextOrder_96 (by decide) ?_
        refine r_isub g dX5_nextOrder_97 ?_
        refine r_topi (y := (nI (n - 1))) (pk_sub (b := 1) (by omega)) ?_
        refine r_istore g dX5_nextOrder_98 rfl rfl rfl ?_
        simp only [upA_upA, upA_eq] at hM
        refine loop3 n (i + 1) (n - 1) (swp o i (0)) (upd (upd (A 29) i (nI (o (0)))) (0) (nI (o i))) _ _ _ _ hM (by omega) ⟨by omega, by omega⟩ (fun r hr2 => ?_) (by unfold nxtF; rw [hi1]; show some (revF n (swp o i (ndJ o (o i) (n - 1))) (i + 1) (n - 1)) = _; rw [hJ2])
        unfold swp
        by_cases e : r = 0
        · subst e; rw [pk_us, if_pos rfl]
        · rw [pk_un e, if_neg e]
          by_cases e2 : r = i
          · subst e2; rw [pk_us, if_pos rfl]
          · rw [pk_un e2, if_neg e2]; exact (ho r hr2).1
      · skip
        have q : o (0) < o i := Nat.lt_of_not_le (fun z => c53 (nI_le z (ho _ (by omega)).2))
        have hi0 : i = 0 := by omega
        rw [hi0] at q
        exact absurd q (Nat.lt_irrefl _)
    | succ j ih =>
      intro hij hj hJ
      refine r_aload_n g dX5_nextOrder_41 rfl ?_
      refine rm_get g hM fX5_78 rfl dX5_nextOrder_42 ?_
      refine r_iload_n g dX5_nextOrder_45 rfl ?_
      refine rm_iald 29 (j := (j + 1)) g hM rfl (by decide) rfl rfl (show j + 1 < 6 by omega) dX5_nextOrder_46 ?_
      refine r_topi (y := (nI (o (j + 1)))) (ho (j + 1) (by omega)).1 ?_
      refine r_aload_n g dX5_nextOrder_47 rfl ?_
      refine rm_get g hM fX5_78 rfl dX5_nextOrder_48 ?_
      refine r_iload_n g dX5_nextOrder_51 rfl ?_
      refine rm_iald 29 (j := i) g hM rfl (by decide) rfl rfl (show i < 6 by omega) dX5_nextOrder_52 ?_
      refine r_topi (y := (nI (o i))) (ho i (by omega)).1 ?_
      refine r_icmp_ge 62 g dX5_nextOrder_53 (by decide) (fun c53 => ?_) (fun c53 => ?_)
      · skip
        have q : ¬ o (j + 1) < o i := fun z => absurd c53 (nI_ge z (ho i (by omega)).2)
        have hJ2 : ndJ o (o i) (n - 1) = j + 1 := hJ.trans (if_neg q)
        refine r_aload_n g dX5_nextOrder_62 rfl ?_
        refine rm_get g hM fX5_78 rfl dX5_nextOrder_63 ?_
        refine r_iload_n g dX5_nextOrder_66 rfl ?_
        refine rm_iald 29 (j := i) g hM rfl (by decide) rfl rfl (show i < 6 by omega) dX5_nextOrder_67 ?_
        refine r_topi (y := (nI (o i))) (ho i (by omega)).1 ?_
        refine r_istore g dX5_nextOrder_68 rfl rfl rfl ?_
        refine r_aload_n g dX5_nextOrder_70 rfl ?_
        refine rm_get g hM fX5_78 rfl dX5_nextOrder_71 ?_
        refine r_iload_n g dX5_nextOrder_74 rfl ?_
        refine r_aload_n g dX5_nextOrder_75 rfl ?_
        refine rm_get g hM fX5_78 rfl dX5_nextOrder_76 ?_
        refine r_iload_n g dX5_nextOrder_79 rfl ?_
        refine rm_iald 29 (j := (j + 1)) g hM rfl (by decide) rfl rfl (show j + 1 < 6 by omega) dX5_nextOrder_80 ?_
        refine r_topi (y := (nI (o (j + 1)))) (ho (j + 1) (by omega)).1 ?_
        refine rm_iast 29 (j := i) g hM hbm rfl (by decide) rfl rfl (show i < 6 by omega) dX5_nextOrder_81 ?_
        intro h_5 hM
        refine r_aload_n g dX5_nextOrder_82 rfl ?_
        refine rm_get g hM fX5_78 rfl dX5_nextOrder_83 ?_
        refine r_iload_n g dX5_nextOrder_86 rfl ?_
        refine r_iload g dX5_nextOrder_87 rfl ?_
        refine rm_iast 29 (j := (j + 1)) g hM hbm rfl (by decide) rfl rfl (show j + 1 < 6 by omega) dX5_nextOrder_89 ?_
        intro h_6 hM
        refine r_iload_n g dX5_nextOrder_90 rfl ?_
        refine r_iconst (v := 1) g dX5_nextOrder_91 (by decide) ?_
        refine r_iadd g dX5_nextOrder_92 ?_
        refine r_topi (y := (nI (i + 1))) (nI_add i 1) ?_
        refine r_istore g dX5_nextOrder_93 rfl rfl rfl ?_
        refine r_iload_n g dX5_nextOrder_95 rfl ?_
        refine r_iconst (v := 1) g dX5_nextOrder_96 (by decide) ?_
        refine r_isub g dX5_nextOrder_97 ?_
        refine r_topi (y := (nI (n - 1))) (pk_sub (b := 1) (by omega)) ?_
        refine r_istore g dX5_nextOrder_98 rfl rfl rfl ?_
        simp only [upA_upA, upA_eq] at hM
        refine loop3 n (i + 1) (n - 1) (swp o i (j + 1)) (upd (upd (A 29) i (nI (o (j + 1)))) (j + 1) (nI (o i))) _ _ _ _ hM (by omega) ⟨by omega, by omega⟩ (fun r hr2 => ?_) (by unfold nxtF; rw [hi1]; show some (revF n (swp o i (ndJ o (o i) (n - 1))) (i + 1) (n - 1)) = _; rw [hJ2])
        unfold swp
        by_cases e : r = j + 1
        · subst e; rw [pk_us, if_pos rfl]
        · rw [pk_un e, if_neg e]
          by_cases e2 : r = i
          · subst e2; rw [pk_us, if_pos rfl]
          · rw [pk_un e2, if_neg e2]; exact (ho r hr2).1
      · skip
        have q : o (j + 1) < o i := Nat.lt_of_not_le (fun z => c53 (nI_le z (ho _ (by omega)).2))
        have hJ2 : ndJ o (o i) (n - 1) = ndJ o (o i) j := hJ.trans (if_pos q)
        have hij2 : i ≠ j + 1 := fun z => by rw [z] at q; exact absurd q (Nat.lt_irrefl _)
        refine r_iinc (v := (nI j)) g dX5_nextOrder_56 rfl (nI_decb (b := j + 1) (by omega)) rfl rfl ?_
        refine r_goto 41 g dX5_nextOrder_59 (by decide) ?_
        exact ih (by omega) (by omega) hJ2
  have after : ∀ ii, ndI o (n - 1) = ii → ii ≤ n - 1 → Sf k 0 0 h nx 31 [some (.ref m), some (.int (nI n)), some (.int (nI ii - 1)), none, none, none, none] [] := by
    intro ii h1 h2
    match ii, h1, h2 with
    | 0, h1, h2 =>
      refine r_iload_n g dX5_nextOrder_31 rfl ?_
      refine r_if_ge 37 g dX5_nextOrder_32 (by decide) (fun c32 => absurd c32 (by decide)) (fun c32 => ?_)
      refine r_iconst (v := 0) g dX5_nextOrder_35 (by decide) ?_
      exact r_zret g hr (Nat.le_refl _) (Nat.le_refl _) dX5_nextOrder_36 rfl ⟨rfl, A 29, by rw [upA_self]; exact hM, by unfold nxtF; rw [h1]⟩
    | i + 1, h1, h2 =>
      rw [nI_pred]
      refine r_iload_n g dX5_nextOrder_31 rfl ?_
      refine r_if_ge 37 g dX5_nextOrder_32 (by decide) (fun c32 => ?_) (fun c32 => absurd (nI_pos' (by omega)) c32)
      refine r_iload_n g dX5_nextOrder_37 rfl ?_
      refine r_iconst (v := 1) g dX5_nextOrder_38 (by decide) ?_
      refine r_isub g dX5_nextOrder_39 ?_
      refine r_topi (y := (nI (n - 1))) (pk_sub (b := 1) (by omega)) ?_
      refine r_istore_n g dX5_nextOrder_40 rfl rfl rfl ?_
      exact loop2 i h1 (by omega) (n - 1) (by omega) (by omega) rfl
  have loop1 : ∀ ii, ii ≤ n - 1 → ndI o (n - 1) = ndI o ii → Sf k 0 0 h nx 4 [some (.ref m), some (.int (nI n)), some (.int (nI ii - 1)), none, none, none, none] [] := by
    intro ii
    induction ii with
    | zero =>
      intro h1 h2
      refine r_iload_n g dX5_nextOrder_4 rfl ?_
      refine r_if_lt 31 g dX5_nextOrder_5 (by decide) (fun c5 => ?_) (fun c5 => absurd (show nI 0 - 1 < 0 by decide) c5)
      exact after 0 h2 (Nat.zero_le _)
    | succ i ih =>
      intro h1 h2
      rw [nI_pred]
      refine r_iload_n g dX5_nextOrder_4 rfl ?_
      refine r_if_lt 31 g dX5_nextOrder_5 (by decide) (fun c5 => absurd c5 (nI_pos (by omega))) (fun c5 => ?_)
      refine r_aload_n g dX5_nextOrder_8 rfl ?_
      refine rm_get g hM fX5_78 rfl dX5_nextOrder_9 ?_
      refine r_iload_n g dX5_nextOrder_12 rfl ?_
      refine rm_iald 29 (j := i) g hM rfl (by decide) rfl rfl (show i < 6 by omega) dX5_nextOrder_13 ?_
      refine r_topi (y := (nI (o i))) (ho i (by omega)).1 ?_
      refine r_aload_n g dX5_nextOrder_14 rfl ?_
      refine rm_get g hM fX5_78 rfl dX5_nextOrder_15 ?_
      refine r_iload_n g dX5_nextOrder_18 rfl ?_
      refine r_iconst (v := 1) g dX5_nextOrder_19 (by decide) ?_
      refine r_iadd g dX5_nextOrder_20 ?_
      refine r_topi (y := (nI (i + 1))) (nI_add i 1) ?_
      refine rm_iald 29 (j := i + 1) g hM rfl (by decide) rfl rfl (show i + 1 < 6 by omega) dX5_nextOrder_21 ?_
      refine r_topi (y := (nI (o (i + 1)))) (ho (i + 1) (by omega)).1 ?_
      refine r_icmp_le 31 g dX5_nextOrder_22 (by decide) (fun c22 => ?_) (fun c22 => ?_)
      · skip
        have q : ¬ o (i + 1) < o i := fun z => absurd c22 (nI_ge z (ho i (by omega)).2)
        have e9 := after (i + 1) (h2.trans (if_neg q)) h1
        rw [nI_pred] at e9
        exact e9
      · skip
        have q : o (i + 1) < o i := Nat.lt_of_not_le (fun z => c22 (nI_le z (ho _ (by omega)).2))
        refine r_iinc (v := (nI i - 1)) g dX5_nextOrder_25 rfl (nI_dec2 i) rfl rfl ?_
        refine r_goto 4 g dX5_nextOrder_28 (by decide) ?_
        exact ih (by omega) (h2.trans (if_pos q))
  rcases Nat.eq_zero_or_pos n with hz | hz
  · subst hz
    refine r_iload_n g dX5_nextOrder_0 rfl ?_
    refine r_iconst (v := 2) g dX5_nextOrder_1 (by decide) ?_
    refine r_isub g dX5_nextOrder_2 ?_
    refine r_topi (y := (-2)) (by decide) ?_
    refine r_istore_n g dX5_nextOrder_3 rfl rfl rfl ?_
    refine r_iload_n g dX5_nextOrder_4 rfl ?_
    refine r_if_lt 31 g dX5_nextOrder_5 (by decide) (fun c5 => ?_) (fun c5 => absurd c5 (by decide))
    refine r_iload_n g dX5_nextOrder_31 rfl ?_
    refine r_if_ge 37 g dX5_nextOrder_32 (by decide) (fun c32 => absurd c32 (by decide)) (fun c32 => ?_)
    refine r_iconst (v := 0) g dX5_nextOrder_35 (by decide) ?_
    exact r_zret g hr (Nat.le_refl _) (Nat.le_refl _) dX5_nextOrder_36 rfl ⟨rfl, A 29, by rw [upA_self]; exact hM, rfl⟩
  · skip
    refine r_iload_n g dX5_nextOrder_0 rfl ?_
    refine r_iconst (v := 2) g dX5_nextOrder_1 (by decide) ?_
    refine r_isub g dX5_nextOrder_2 ?_
    refine r_topi (y := (nI (n - 1) - 1)) (nI_m2 hz) ?_
    refine r_istore_n g dX5_nextOrder_3 rfl rfl rfl ?_
    exact loop1 (n - 1) (Nat.le_refl _) rfl
