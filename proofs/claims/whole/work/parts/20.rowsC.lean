/-! 20: the methods of Rows -/
theorem abs_d {a b : Nat} (ha : a < 2 ^ 20) (hb : b < 2 ^ 20) : (if (0 : Int32) ≤ nI a - nI b then nI a - nI b else 0 - (nI a - nI b)) = nI (dist a b) := by
  unfold dist
  by_cases h : a < b
  · obtain ⟨c, rfl⟩ : ∃ c, b = a + c := ⟨b - a, by omega⟩
    have e : nI a - nI (a + c) = 0 - nI c := by
      apply Int32.toInt_inj.mp
      rw [Int32.toInt_sub, Int32.toInt_sub, nI_toInt (by omega), nI_toInt (by omega), nI_toInt (by omega)]
      show Int.bmod _ _ = Int.bmod (0 - _) _
      congr 1
      omega
    have h0 : ¬ (0 : Int32) ≤ 0 - nI c := by
      rw [Int32.le_iff_toInt_le, Int32.toInt_sub, nI_toInt (by omega), show (0 : Int32).toInt = 0 from rfl, Int.bmod_def]
      split <;> omega
    rw [e, if_neg h0, if_pos h, Int32.zero_sub, Int32.zero_sub, Int32.neg_neg]
    congr 1
    omega
  · rw [nI_sb (show a = b + (a - b) by omega), if_pos (nI_pos' (by omega)), if_neg h]
theorem bt0 {S i : Nat} (h : nI (S / 2 ^ i % 2) = 0) : S.testBit i = false := tb_0 (fun z => by rw [z] at h; exact absurd h (by decide))
theorem bt1 {S i : Nat} (h : ¬ nI (S / 2 ^ i % 2) = 0) : S.testBit i = true := tb_1 (by
  rcases Nat.mod_two_eq_zero_or_one (S / 2 ^ i) with z | z
  · rw [z] at h; exact absurd rfl h
  · exact z)
theorem and_n1 : ∀ S, S < 64 → ∀ i, i < 6 → S.testBit i = true → nI S &&& (nI (2 ^ i) ^^^ (-1)) = nI (S - 2 ^ i) := by decide +kernel
theorem and_n2 : ∀ S, S < 64 → ∀ A, A < 64 → decide (nI S &&& (nI A ^^^ (-1)) = 0) = decide (S &&& A = S) := by decide +kernel
/-- the giving's arrays hold what the state says -/
def GF (s : AS) (GA : Nat → Nat → Int32) : Prop := ∀ i, i < gn s → GA 0 i = nI (gfr s i) ∧ GA 1 i = nI (gto s i) ∧ GA 2 i = nI (gw s i) ∧ GA 8 i = nI (gk s i) ∧ GA 9 i = nI (carsN s (gk s i)) ∧ GA 10 i = beI (s.2.2 (gk s i) 5)
def BU (s : AS) (GA : Nat → Nat → Int32) : Prop := ∀ S, S < 2 ^ gn s → GA 6 S = nI (burS s S 6)
/-- the slot of the call that the car has begun; 6: none -/
def bsl (s : AS) (c : Nat) : Nat := firstF s c 63 (gn s)
def beB (b : Nat) : Int32 := if b = 6 then -1 else nI b
def WF (s : AS) (c : Nat) (W : Nat → Int32) : Prop := W 0 = nI (s.2.1 c 0) ∧ W 1 = nI (s.2.1 c 1) ∧ W 2 = nI (gdl s c) ∧ W 3 = beB (bsl s c)
def pkT (s : AS) (c P i : Nat) : Nat := tpl s c P + dist (plc s c P) (gfr s i) * s.2.1 c 0
def swT (s : AS) (c i : Nat) : Nat := 3 + dist (gfr s i) (gto s i) * s.2.1 c 0
theorem valI_eq (s : AS) (c S P i : Nat) : valI s c S P i = gw s i * pkT s c P i + (pkT s c P i + swT s c i) + (pkT s c P i + swT s c i + 3) * burS s (S - 2 ^ i) 6 + bpc s c (S - 2 ^ i) i := rfl
theorem g6_64 {s : AS} (hg : gn s ≤ 6) : 2 ^ gn s ≤ 64 := Nat.pow_le_pow_right (n := 2) (by decide) hg
theorem g_to {s : AS} (hA : AI s) {i : Nat} (h : i < gn s) : gfr s i < s.1 0 ∧ gto s i < s.1 0 ∧ gw s i ≤ 13336 := by
  have hkk := hA.2.2.2.2.2.1 _ (gk_at h).1
  exact ⟨hkk.1, hkk.2.1, wgt_le hA _⟩
theorem plc_lt {s : AS} (hA : AI s) {c P : Nat} (hc : c < s.1 2) (hP : P = 6 ∨ P < gn s) : plc s c P < s.1 0 ∧ tpl s c P ≤ 100000 := by
  have hcc := hA.2.2.2.2.1 c hc
  have hg := gn_le hA
  unfold plc tpl gdl
  rcases hP with h | h
  · rw [if_neg (by omega), if_neg (by omega)]; exact ⟨hcc.2.1, by omega⟩
  · rw [if_pos (by omega), if_pos (by omega)]; exact ⟨(g_to hA h).2.1, Nat.zero_le _⟩
theorem pkT_le {s : AS} (hA : AI s) {c P i : Nat} (hc : c < s.1 2) (hP : P = 6 ∨ P < gn s) (hi : i < gn s) : pkT s c P i ≤ 100295 := by
  have h1 := plc_lt hA hc hP
  have h2 := dsp (sp := s.2.1 c 0) hA.1.2 h1.1 (g_to hA hi).1 (hA.2.2.2.2.1 c hc).1.2
  unfold pkT
  omega
theorem swT_le {s : AS} (hA : AI s) {c i : Nat} (hc : c < s.1 2) (hi : i < gn s) : swT s c i ≤ 298 := by
  have h2 := dsp (sp := s.2.1 c 0) hA.1.2 (g_to hA hi).1 (g_to hA hi).2.1 (hA.2.2.2.2.1 c hc).1.2
  unfold swT
  omega
theorem bpc_le {s : AS} (hA : AI s) {c S i : Nat} (hc : c < s.1 2) (hS : S < 2 ^ gn s) (hi : i < gn s) : bpc s c S i ≤ 12000000000 := by
  have hg := gn_le hA
  have h64 := g6_64 hg
  have hb := bp_in_at (s := s) (c := c) (S := S) (i := i) (by omega) (by omega)
  rw [bp_in (by omega)] at hb
  rcases brs_at _ _ _ _ _ _ hb with h | ⟨h1, -, h3⟩
  · cases h
  · have h4 := (chain_all S (by omega)).2.2 _ h1
    have h5 : (bpr s c S i).length ≤ 6 := by rw [h4.1]; exact elems_len _ _
    have e1 : plc s c i = gto s i := if_pos (by omega)
    have e2 : tpl s c i = 0 := if_pos (by omega)
    have h6 := rowC_le hA hc (bpr s c S i) (gto s i) 0 (g_to hA hi).2.1 (by omega) (fun x hx => bit_lt hS (h4.2 x hx).2)
    rw [h3]
    unfold pcst
    rw [e1, e2]
    omega
theorem valI_le {s : AS} (hA : AI s) {c S P i : Nat} (hc : c < s.1 2) (hS : S < 2 ^ gn s) (hP : P = 6 ∨ P < gn s) (hi : i < gn s) : valI s c S P i < 2 ^ 40 := by
  have h1 := pkT_le hA hc hP hi
  have h2 := swT_le hA hc hi
  have h3 := bpc_le hA hc (Nat.lt_of_le_of_lt (Nat.sub_le S (2 ^ i)) hS) hi
  have h4 := (g_to hA hi).2.2
  have h5 := burS_le hA (S - 2 ^ i) 6
  have m1 : gw s i * pkT s c P i ≤ 13336 * 100295 := Nat.mul_le_mul h4 h1
  have m2 : (pkT s c P i + swT s c i + 3) * burS s (S - 2 ^ i) 6 ≤ 100596 * (6 * 13337) := Nat.mul_le_mul (by omega) h5
  rw [valI_eq]
  omega
def curV (a : Option (Nat × Nat)) : Nat := match a with
  | none => 1152921504606846976
  | some b => b.1
theorem bst_lt {f : Nat → Nat} {p : Nat} {a : Option (Nat × Nat)} (h : f p < curV a) : bst f p a = some (f p, p) := by
  cases a with
  | none => rfl
  | some b => rw [bst_s]; exact if_pos h
theorem bst_nl {f : Nat → Nat} {p : Nat} {a : Option (Nat × Nat)} (h : ¬ f p < curV a) (h2 : f p < 1152921504606846976) : bst f p a = a := by
  cases a with
  | none => exact absurd h2 h
  | some b => rw [bst_s]; exact if_neg h
theorem brs_range (f : Nat → Nat) (ok : Nat → Bool) (i : Nat) : brs f ok (List.range (i + 1)) none = if ok i = true then bst f i (brs f ok (List.range i) none) else brs f ok (List.range i) none := by
  rw [List.range_succ, brs_append]
  rfl
def chF (s : AS) (c S P i : Nat) : Option (Nat × Nat) := brs (valI s c S P) (fun i => (frs s c S P).testBit i) (List.range i) none
theorem chF_6 (s : AS) (c S P : Nat) : chF s c S P 6 = chs s c S P := rfl
theorem chF_t {s : AS} {c S P i : Nat} (h : (frs s c S P).testBit i = true) : chF s c S P (i + 1) = bst (valI s c S P) i (chF s c S P i) := (brs_range _ _ i).trans (if_pos h)
theorem chF_f {s : AS} {c S P i : Nat} (h : (frs s c S P).testBit i = false) : chF s c S P (i + 1) = chF s c S P i := (brs_range _ _ i).trans (if_neg (by rw [h]; decide))
def CHI (s : AS) (c S P i : Nat) (CO : Nat → Int64) (FI : Nat → Int32) : Prop := CO (S * 7 + P) = lN (curV (chF s c S P i)) ∧ curV (chF s c S P i) ≤ 1152921504606846976 ∧ ∀ b, chF s c S P i = some b → FI (S * 7 + P) = nI b.2
/-- what choose sets -/
def KCh (h : Hp) (nx r : Nat) (W : Nat → Int32) (CO : Nat → Int64) (FI : Nat → Int32) (s : AS) (c S P : Nat) : Option Value → Hp → Nat → Prop := fun v h' nx' => v = none ∧ nx = nx' ∧ ∃ CO' FI', RwS h h' r W CO' FI' ∧ (CO' (S * 7 + P) = lN (bpc s c S P) ∧ FI' (S * 7 + P) = nI (bpi s c S P)) ∧ ∀ j, j ≠ S * 7 + P → CO' j = CO j ∧ FI' j = FI j
/-- the rows of all sets below X are weighed -/
def abS (s : AS) (c : Nat) : Nat → Nat
  | 0 => 0
  | n + 1 => abS s c n + (if (carsN s (gk s n)).testBit c = true then 2 ^ n else 0)
def abl (s : AS) (c : Nat) : Nat := abS s c (gn s)
theorem abS_lt (s : AS) (c : Nat) : ∀ n, abS s c n < 2 ^ n
  | 0 => Nat.one_pos
  | n + 1 => by
    have := abS_lt s c n
    unfold abS
    rw [Nat.pow_succ]
    split <;> omega
theorem abS_bit (s : AS) (c : Nat) : ∀ n i, (abS s c n).testBit i = (decide (i < n) && (carsN s (gk s i)).testBit c)
  | 0, i => by rw [show abS s c 0 = 0 from rfl, Nat.zero_testBit]; rfl
  | n + 1, i => by
    have ih := abS_bit s c n i
    have hl := abS_lt s c n
    unfold abS
    by_cases h : (carsN s (gk s n)).testBit c = true
    · rw [if_pos h, Nat.add_comm]
      by_cases e : i = n
      · subst e
        rw [Nat.testBit_two_pow_add_eq, Nat.testBit_lt_two_pow hl, h, decide_eq_true (Nat.lt_succ_self i)]
        rfl
      · by_cases e2 : i < n
        · rw [Nat.testBit_two_pow_add_gt e2, ih, decide_eq_true e2, decide_eq_true (show i < n + 1 by omega)]
        · rw [Nat.testBit_lt_two_pow (Nat.lt_of_lt_of_le (show 2 ^ n + abS s c n < 2 ^ (n + 1) by rw [Nat.pow_succ]; omega) (Nat.pow_le_pow_right (by decide) (by omega))), decide_eq_false (show ¬ i < n + 1 by omega)]
          rfl
    · rw [if_neg h, Nat.add_zero, ih]
      by_cases e : i = n
      · subst e
        rw [decide_eq_false (Nat.lt_irrefl i), decide_eq_true (Nat.lt_succ_self i)]
        simpa using h
      · rw [decide_eq_decide.mpr (show i < n ↔ i < n + 1 by omega)]
def plO (s : AS) (c S P : Nat) : Prop := P = 6 ∨ (P < 6 ∧ (abl s c).testBit P = true ∧ S.testBit P = false)
def RK (s : AS) (c X : Nat) (CO : Nat → Int64) (FI : Nat → Int32) : Prop := (∀ j, j < 7 → CO j = 0) ∧ ∀ S P, S < X → S ≠ 0 → S &&& abl s c = S → plO s c S P → CO (S * 7 + P) = lN (bpc s c S P) ∧ FI (S * 7 + P) = nI (bpi s c S P)
theorem and_sub {S A i : Nat} (h : S &&& A = S) (hi : S.testBit i = true) : A.testBit i = true := by
  rw [← h, Nat.testBit_and, Bool.and_eq_true] at hi
  exact hi.2
theorem sub_and : ∀ S, S < 64 → ∀ A, A < 64 → S &&& A = S → ∀ i, i < 6 → S.testBit i = true → (S - 2 ^ i) &&& A = S - 2 ^ i := by decide +kernel
theorem abl_lt (s : AS) (c : Nat) : abl s c < 2 ^ gn s := abS_lt s c _
theorem and_lt {S A n : Nat} (h : S &&& A = S) (hA : A < n) : S < n := by
  rw [← h]
  exact Nat.lt_of_le_of_lt Nat.and_le_right hA
/-- what choose needs of the rows of the rests -/
theorem RK.need {s : AS} {c S : Nat} {CO : Nat → Int64} {FI : Nat → Int32} (hg : gn s ≤ 6) (h : RK s c S CO FI) (hS : S < 64) (hs : S &&& abl s c = S) (i : Nat) (hb : S.testBit i = true) : CO ((S - 2 ^ i) * 7 + i) = lN (bpc s c (S - 2 ^ i) i) := by
  have hi : i < 6 := bit_lt (n := 6) hS hb
  by_cases e : S - 2 ^ i = 0
  · rw [e, (bp_0 s c i).1, Nat.zero_mul, Nat.zero_add]
    exact h.1 i (by omega)
  · have h2 := sub_lt hb
    have h64 := g6_64 hg
    have hp : 0 < 2 ^ i := Nat.pow_pos (by decide)
    exact (h.2 (S - 2 ^ i) i (by omega) e (sub_and S hS _ (Nat.lt_of_lt_of_le (abl_lt s c) h64) hs i hi hb) (Or.inr ⟨hi, and_sub hs hb, by rw [sub_bit S hS i hi hb i hi]; simp⟩)).1

set_option maxHeartbeats 4000000 in
set_option maxRecDepth 100000 in
theorem ok_r_cell (l : Launch) (G : Nat → ClassId) (D : va_G) (base : Nat) {h : Hp} {nx S Pl : Nat} (hS : S < 64) (hP : Pl < 7) : MetP l G D base miX3_cell 0 0 0 [.int (nI S), .int (nI Pl)] h nx (Kv (.int (nI (S * 7 + Pl))) h nx) := by
  refine MetP_of (by decide +kernel) rfl ?_
  intro k g hr hR hcl hcg hcd hcb hcn hnx
  subst hcl; subst hcg; subst hcd; subst hcb
  show Sf k 0 0 h nx 0 [some (.int (nI S)), some (.int (nI Pl))] []
  refine r_iload_n g dX3_cell_0 rfl ?_
  refine r_if_lt 29 g dX3_cell_1 (by decide) (fun c1 => absurd c1 (nI_pos (by omega))) (fun c1 => ?_)
  refine r_iload_n g dX3_cell_4 rfl ?_
  refine r_bipush (v := 64) g dX3_cell_5 (by decide) ?_
  refine r_icmp_ge 29 g dX3_cell_7 (by decide) (fun c7 => absurd c7 (nI_ge (b := 64) (by omega) (by decide))) (fun c7 => ?_)
  refine r_iload_n g dX3_cell_10 rfl ?_
  refine r_if_lt 29 g dX3_cell_11 (by decide) (fun c11 => absurd c11 (nI_pos (by omega))) (fun c11 => ?_)
  refine r_iload_n g dX3_cell_14 rfl ?_
  refine r_bipush (v := 7) g dX3_cell_15 (by decide) ?_
  refine r_icmp_ge 29 g dX3_cell_17 (by decide) (fun c17 => absurd c17 (nI_ge (b := 7) (by omega) (by decide))) (fun c17 => ?_)
  refine r_iload_n g dX3_cell_20 rfl ?_
  refine r_bipush (v := 7) g dX3_cell_21 (by decide) ?_
  refine r_imul g dX3_cell_23 ?_
  refine r_topi (y := (nI (S * 7))) (pk_mul S 7) ?_
  refine r_iload_n g dX3_cell_24 rfl ?_
  refine r_iadd g dX3_cell_25 ?_
  refine r_topi (y := (nI ((S * 7) + Pl))) (nI_add (S * 7) Pl) ?_
  refine r_goto 30 g dX3_cell_26 (by decide) ?_
  exact r_iret g hr (Nat.le_refl _) (Nat.le_refl _) dX3_cell_30 ⟨rfl, rfl, rfl⟩
set_option maxHeartbeats 4000000 in
set_option maxRecDepth 100000 in
theorem ok_r_costOf (l : Launch) (G : Nat → ClassId) (D : va_G) (base : Nat) {h : Hp} {nx r : Nat} {W : Nat → Int32} {CO : Nat → Int64} {FI : Nat → Int32} (hW : RO h r W CO FI) {S : Nat} (hS : S < 64) : MetP l G D base miX3_costOf 1 0 0 [.ref r, .int (nI S)] h nx (Kv (.long (CO (S * 7 + 6))) h nx) := by
  refine MetP_of (by decide +kernel) rfl ?_
  intro k g hr hR hcl hcg hcd hcb hcn hnx
  subst hcl; subst hcg; subst hcd; subst hcb
  show Sf k 0 0 h nx 0 [some (.ref r), some (.int (nI S))] []
  refine r_aload_n g dX3_costOf_0 rfl ?_
  refine r_getf g fX3_11 hW.1 rfl dX3_costOf_1 ?_
  refine r_iload_n g dX3_costOf_4 rfl ?_
  refine r_bipush (v := 6) g dX3_costOf_5 (by decide) ?_
  refine r_pS g kX3_19 (ok_r_cell _ _ _ _ (S := S) (Pl := 6) (by omega) (by omega)) rfl rfl hnx hR (by decide) (Nat.zero_le _) (Nat.zero_le _) rfl rfl dX3_costOf_7 ?_
  refine r_lald (j := S * 7 + 6) g hW.2.1 rfl (show S * 7 + 6 < 448 by omega) (by decide) dX3_costOf_10 ?_
  exact r_lret g hr (Nat.le_refl _) (Nat.le_refl _) dX3_costOf_11 ⟨rfl, rfl, rfl⟩
set_option maxHeartbeats 4000000 in
set_option maxRecDepth 100000 in
theorem ok_r_firstOf (l : Launch) (G : Nat → ClassId) (D : va_G) (base : Nat) {h : Hp} {nx r : Nat} {W : Nat → Int32} {CO : Nat → Int64} {FI : Nat → Int32} (hW : RO h r W CO FI) {S Pl : Nat} (hS : S < 64) (hP : Pl < 7) : MetP l G D base miX3_firstOf 1 0 0 [.ref r, .int (nI S), .int (nI Pl)] h nx (Kv (.int (FI (S * 7 + Pl))) h nx) := by
  refine MetP_of (by decide +kernel) rfl ?_
  intro k g hr hR hcl hcg hcd hcb hcn hnx
  subst hcl; subst hcg; subst hcd; subst hcb
  show Sf k 0 0 h nx 0 [some (.ref r), some (.int (nI S)), some (.int (nI Pl))] []
  refine r_aload_n g dX3_firstOf_0 rfl ?_
  refine r_getf g fX3_15 hW.1 rfl dX3_firstOf_1 ?_
  refine r_iload_n g dX3_firstOf_4 rfl ?_
  refine r_iload_n g dX3_firstOf_5 rfl ?_
  refine r_pS g kX3_19 (ok_r_cell _ _ _ _ (S := S) (Pl := Pl) (by omega) (by omega)) rfl rfl hnx hR (by decide) (Nat.zero_le _) (Nat.zero_le _) rfl rfl dX3_firstOf_6 ?_
  refine r_iald (j := S * 7 + Pl) g hW.2.2 rfl (show S * 7 + Pl < 448 by omega) (by decide) dX3_firstOf_9 ?_
  exact r_iret g hr (Nat.le_refl _) (Nat.le_refl _) dX3_firstOf_10 ⟨rfl, rfl, rfl⟩
set_option maxHeartbeats 4000000 in
set_option maxRecDepth 100000 in
theorem ok_r_secondsTo (l : Launch) (G : Nat → ClassId) (D : va_G) (base : Nat) {h : Hp} {nx r : Nat} {W : Nat → Int32} {CO : Nat → Int64} {FI : Nat → Int32} {gv : Nat} {C : Int32} {Lz : Int64} {GA : Nat → Nat → Int32} (s : AS) (hA : AI s) {c : Nat} (hc : c < s.1 2) (hW : RO h r W CO FI) (hG : GO h gv C Lz GA) (hF : GF s GA) (hWF : WF s c W) {Pl i : Nat} (hP : Pl = 6 ∨ Pl < gn s) (hi : i < gn s) : MetP l G D base miX3_secondsTo 1 0 0 [.ref r, .ref gv, .int (nI Pl), .int (nI i)] h nx (Kv (.int (nI (pkT s c Pl i))) h nx) := by
  refine MetP_of (by decide +kernel) rfl ?_
  intro k g hr hR hcl hcg hcd hcb hcn hnx
  subst hcl; subst hcg; subst hcd; subst hcb
  have hg6 := gn_le hA
  show Sf k 0 0 h nx 0 [some (.ref r), some (.ref gv), some (.int (nI Pl)), some (.int (nI i))] []
  refine r_iload_n g dX3_secondsTo_0 rfl ?_
  refine r_if_lt 32 g dX3_secondsTo_1 (by decide) (fun c1 => absurd c1 (nI_pos (by omega))) (fun c1 => ?_)
  refine r_iload_n g dX3_secondsTo_4 rfl ?_
  refine r_bipush (v := 6) g dX3_secondsTo_5 (by decide) ?_
  refine r_icmp_ge 32 g dX3_secondsTo_7 (by decide) (fun c7 => ?_) (fun c7 => ?_)
  · skip
    have hp6 : Pl = 6 := hP.elim id (fun h => absurd c7 (nI_ge (b := 6) (by omega) (by decide)))
    refine r_aload_n g dX3_secondsTo_32 rfl ?_
    refine r_getf g fX3_34 hW.1 rfl dX3_secondsTo_33 ?_
    refine r_topi (y := (nI (gdl s c))) hWF.2.2.1 ?_
    refine r_aload_n g dX3_secondsTo_36 rfl ?_
    refine r_getf g fX3_29 hW.1 rfl dX3_secondsTo_37 ?_
    refine r_topi (y := (nI (s.2.1 c 0))) hWF.1 ?_
    refine r_aload_n g dX3_secondsTo_40 rfl ?_
    refine r_getf g fX3_33 hW.1 rfl dX3_secondsTo_41 ?_
    refine r_topi (y := (nI (s.2.1 c 1))) hWF.2.1 ?_
    refine r_aload_n g dX3_secondsTo_44 rfl ?_
    refine r_getf g fX3_75 hG.1 rfl dX3_secondsTo_45 ?_
    refine r_iload_n g dX3_secondsTo_48 rfl ?_
    refine rg_iald 0 (j := i) g hG rfl rfl (show i < 6 by omega) dX3_secondsTo_49 ?_
    refine r_topi (y := (nI (gfr s i))) (hF i (by omega)).1 ?_
    refine r_isub g dX3_secondsTo_50 ?_
    refine r_abs g kX3_78 hR (by decide) (Nat.zero_le _) (Nat.zero_le _) rfl dX3_secondsTo_51 ?_
    refine r_topi (y := (nI (dist (s.2.1 c 1) (gfr s i)))) (abs_d (by have := (hA.2.2.2.2.1 c hc).2.1; have := hA.1.2; omega) (by have := (g_to hA (i := i) (by omega)); have := hA.1.2; omega)) ?_
    refine r_imul g dX3_secondsTo_54 ?_
    refine r_topi (y := (nI ((s.2.1 c 0) * (dist (s.2.1 c 1) (gfr s i))))) (pk_mul (s.2.1 c 0) (dist (s.2.1 c 1) (gfr s i))) ?_
    refine r_iadd g dX3_secondsTo_55 ?_
    refine r_topi (y := (nI ((gdl s c) + ((s.2.1 c 0) * (dist (s.2.1 c 1) (gfr s i)))))) (nI_add (gdl s c) ((s.2.1 c 0) * (dist (s.2.1 c 1) (gfr s i)))) ?_
    exact r_iret g hr (Nat.le_refl _) (Nat.le_refl _) dX3_secondsTo_56 ⟨congrArg (fun z => some (Value.int (nI z))) (by subst hp6; show _ = gdl s c + _; rw [Nat.mul_comm]; rfl), rfl, rfl⟩
  · skip
    have hpg : Pl < gn s := hP.elim (fun h => by rw [h] at c7; exact absurd (show (6 : Int32) ≤ nI 6 by decide) c7) id
    refine r_aload_n g dX3_secondsTo_10 rfl ?_
    refine r_getf g fX3_29 hW.1 rfl dX3_secondsTo_11 ?_
    refine r_topi (y := (nI (s.2.1 c 0))) hWF.1 ?_
    refine r_aload_n g dX3_secondsTo_14 rfl ?_
    refine r_getf g fX3_72 hG.1 rfl dX3_secondsTo_15 ?_
    refine r_iload_n g dX3_secondsTo_18 rfl ?_
    refine rg_iald 1 (j := Pl) g hG rfl rfl (show Pl < 6 by omega) dX3_secondsTo_19 ?_
    refine r_topi (y := (nI (gto s Pl))) (hF Pl (by omega)).2.1 ?_
    refine r_aload_n g dX3_secondsTo_20 rfl ?_
    refine r_getf g fX3_75 hG.1 rfl dX3_secondsTo_21 ?_
    refine r_iload_n g dX3_secondsTo_24 rfl ?_
    refine rg_iald 0 (j := i) g hG rfl rfl (show i < 6 by omega) dX3_secondsTo_25 ?_
    refine r_topi (y := (nI (gfr s i))) (hF i (by omega)).1 ?_
    refine r_isub g dX3_secondsTo_26 ?_
    refine r_abs g kX3_78 hR (by decide) (Nat.zero_le _) (Nat.zero_le _) rfl dX3_secondsTo_27 ?_
    refine r_topi (y := (nI (dist (gto s Pl) (gfr s i)))) (abs_d (by have := (g_to hA (i := Pl) (by omega)); have := hA.1.2; omega) (by have := (g_to hA (i := i) (by omega)); have := hA.1.2; omega)) ?_
    refine r_imul g dX3_secondsTo_30 ?_
    refine r_topi (y := (nI ((s.2.1 c 0) * (dist (gto s Pl) (gfr s i))))) (pk_mul (s.2.1 c 0) (dist (gto s Pl) (gfr s i))) ?_
    exact r_iret g hr (Nat.le_refl _) (Nat.le_refl _) dX3_secondsTo_31 ⟨congrArg (fun z => some (Value.int (nI z))) (by unfold pkT tpl plc; rw [if_pos (by omega), if_pos (by omega), Nat.zero_add, Nat.mul_comm]), rfl, rfl⟩
set_option maxHeartbeats 4000000 in
set_option maxRecDepth 100000 in
theorem ok_r_secondsWith (l : Launch) (G : Nat → ClassId) (D : va_G) (base : Nat) {h : Hp} {nx r : Nat} {W : Nat → Int32} {CO : Nat → Int64} {FI : Nat → Int32} {gv : Nat} {C : Int32} {Lz : Int64} {GA : Nat → Nat → Int32} (s : AS) (hA : AI s) {c : Nat} (hc : c < s.1 2) (hW : RO h r W CO FI) (hG : GO h gv C Lz GA) (hF : GF s GA) (hWF : WF s c W) {i : Nat} (hi : i < gn s) : MetP l G D base miX3_secondsWith 1 0 0 [.ref r, .ref gv, .int (nI i)] h nx (Kv (.int (nI (swT s c i))) h nx) := by
  refine MetP_of (by decide +kernel) rfl ?_
  intro k g hr hR hcl hcg hcd hcb hcn hnx
  subst hcl; subst hcg; subst hcd; subst hcb
  have hg6 := gn_le hA
  show Sf k 0 0 h nx 0 [some (.ref r), some (.ref gv), some (.int (nI i))] []
  refine r_iconst (v := 3) g dX3_secondsWith_0 (by decide) ?_
  refine r_aload_n g dX3_secondsWith_1 rfl ?_
  refine r_getf g fX3_29 hW.1 rfl dX3_secondsWith_2 ?_
  refine r_topi (y := (nI (s.2.1 c 0))) hWF.1 ?_
  refine r_aload_n g dX3_secondsWith_5 rfl ?_
  refine r_getf g fX3_75 hG.1 rfl dX3_secondsWith_6 ?_
  refine r_iload_n g dX3_secondsWith_9 rfl ?_
  refine rg_iald 0 (j := i) g hG rfl rfl (show i < 6 by omega) dX3_secondsWith_10 ?_
  refine r_topi (y := (nI (gfr s i))) (hF i (by omega)).1 ?_
  refine r_aload_n g dX3_secondsWith_11 rfl ?_
  refine r_getf g fX3_72 hG.1 rfl dX3_secondsWith_12 ?_
  refine r_iload_n g dX3_secondsWith_15 rfl ?_
  refine rg_iald 1 (j := i) g hG rfl rfl (show i < 6 by omega) dX3_secondsWith_16 ?_
  refine r_topi (y := (nI (gto s i))) (hF i (by omega)).2.1 ?_
  refine r_isub g dX3_secondsWith_17 ?_
  refine r_abs g kX3_78 hR (by decide) (Nat.zero_le _) (Nat.zero_le _) rfl dX3_secondsWith_18 ?_
  refine r_topi (y := (nI (dist (gfr s i) (gto s i)))) (abs_d (by have := (g_to hA (i := i) (by omega)); have := hA.1.2; omega) (by have := (g_to hA (i := i) (by omega)); have := hA.1.2; omega)) ?_
  refine r_imul g dX3_secondsWith_21 ?_
  refine r_topi (y := (nI ((s.2.1 c 0) * (dist (gfr s i) (gto s i))))) (pk_mul (s.2.1 c 0) (dist (gfr s i) (gto s i))) ?_
  refine r_iadd g dX3_secondsWith_22 ?_
  refine r_topi (y := (nI (3 + ((s.2.1 c 0) * (dist (gfr s i) (gto s i)))))) (nI_add 3 ((s.2.1 c 0) * (dist (gfr s i) (gto s i)))) ?_
  exact r_iret g hr (Nat.le_refl _) (Nat.le_refl _) dX3_secondsWith_23 ⟨congrArg (fun z => some (Value.int (nI z))) (by unfold swT; rw [Nat.mul_comm]), rfl, rfl⟩
set_option maxHeartbeats 4000000 in
set_option maxRecDepth 100000 in
theorem ok_r_choose (l : Launch) (G : Nat → ClassId) (D : va_G) (base : Nat) {h0 : Hp} {nx r : Nat} {W : Nat → Int32} {CO : Nat → Int64} {FI : Nat → Int32} {gv : Nat} {C : Int32} {Lz : Int64} {GA : Nat → Nat → Int32} (s : AS) (hA : AI s) {c : Nat} (hc : c < s.1 2) (hW : RO h0 r W CO FI) (hG : GO h0 gv C Lz GA) (hd : gv + 14 ≤ r ∨ r + 3 ≤ gv) (hF : GF s GA) (hB : BU s GA) (hWF : WF s c W) (hbr : base ≤ r) {S Pl Fi : Nat} (hS : S < 2 ^ gn s) (h0S : S ≠ 0) (hP : Pl = 6 ∨ Pl < gn s) (hFi : Fi = frs s c S Pl) (hF6 : Fi < 64) (hCO : ∀ i, (frs s c S Pl).testBit i = true → CO ((S - 2 ^ i) * 7 + i) = lN (bpc s c (S - 2 ^ i) i)) : MetP l G D base miX3_choose 2 0 0 [.ref r, .ref gv, .int (nI S), .int (nI Pl), .int (nI Fi)] h0 nx (KCh h0 nx r W CO FI s c S Pl) := by
  refine MetP_of (by decide +kernel) rfl ?_
  intro k g hr hR hcl hcg hcd hcb hcn hnx
  subst hcl; subst hcg; subst hcd; subst hcb
  have hW := RwS.rf hW
  show Sf k 0 0 h0 nx 0 [some (.ref r), some (.ref gv), some (.int (nI S)), some (.int (nI Pl)), some (.int (nI Fi)), none, none, none, none, none, none, none] []
  have hg6 := gn_le hA
  have h64 := g6_64 hg6
  have loop : ∀ e i (CO1 : Nat → Int64) (FI1 : Nat → Int32) (h : Hp), RwS h0 h r W CO1 FI1 → i + e = 6 → CHI s c S Pl i CO1 FI1 → (∀ j, j ≠ S * 7 + Pl → CO1 j = CO j ∧ FI1 j = FI j) → Sf k 0 0 h nx 20 [some (.ref r), some (.ref gv), some (.int (nI S)), some (.int (nI Pl)), some (.int (nI Fi)), some (.int (nI (S * 7 + Pl))), some (.int (nI i)), none, none, none, none, none] [] := by
    intro e
    induction e with
    | zero =>
      intro i CO1 FI1 h hW hi hI hfr
      have hi2 : i = 6 := by omega
      subst hi2
      refine r_iload g dX3_choose_20 rfl ?_
      refine r_bipush (v := 6) g dX3_choose_22 (by decide) ?_
      refine r_icmp_ge 152 g dX3_choose_24 (by decide) (fun c24 => ?_) (fun c24 => absurd (show (6 : Int32) ≤ nI 6 by decide) c24)
      have hcs := chs_at (s := s) hg6 (c := c) (S := S) (P := Pl) (by omega) h0S
      unfold CHI at hI
      rw [chF_6, hcs.1] at hI
      exact r_vret g hr (Nat.le_refl _) (Nat.le_refl _) dX3_choose_152 ⟨rfl, rfl, CO1, FI1, hW, ⟨hI.1, hI.2.2 (bpc s c S Pl, bpi s c S Pl) rfl⟩, hfr⟩
    | succ e ih =>
      intro i CO1 FI1 h hW hi hI hfr
      have hFd : Fi / 2 ^ i < 2 ^ 31 := Nat.lt_of_le_of_lt (Nat.div_le_self _ _) (by omega)
      refine r_iload g dX3_choose_20 rfl ?_
      refine r_bipush (v := 6) g dX3_choose_22 (by decide) ?_
      refine r_icmp_ge 152 g dX3_choose_24 (by decide) (fun c24 => absurd c24 (nI_ge (b := 6) (by omega) (by decide))) (fun c24 => ?_)
      refine r_iload g dX3_choose_27 rfl ?_
      refine r_iload g dX3_choose_29 rfl ?_
      refine r_ishr g dX3_choose_31 ?_
      refine r_topi (y := (nI (Fi / 2 ^ i))) (sh_n (by omega) (by omega)) ?_
      refine r_iconst (v := 1) g dX3_choose_32 (by decide) ?_
      refine r_iand g dX3_choose_33 ?_
      refine r_topi (y := (nI (Fi / 2 ^ i % 2))) (and_1 hFd) ?_
      refine r_if_eq 146 g dX3_choose_34 (by decide) (fun c34 => ?_) (fun c34 => ?_)
      · skip
        have q := bt0 c34
        rw [hFi] at q
        refine r_iinc (v := (nI (i + 1))) g dX3_choose_146 rfl (nI_add i 1) rfl rfl ?_
        refine r_goto 20 g dX3_choose_149 (by decide) ?_
        refine r_le (ls2 := [some (.ref r), some (.ref gv), some (.int (nI S)), some (.int (nI Pl)), some (.int (nI Fi)), some (.int (nI (S * 7 + Pl))), some (.int (nI (i + 1))), none, none, none, none, none]) ⟨rfl, rfl, rfl, rfl, rfl, rfl, rfl, trivial⟩ ?_
        refine ih (i + 1) CO1 FI1 _ hW (by omega) ?_ hfr
        unfold CHI
        rw [chF_f q]
        exact hI
      · skip
        have q := bt1 c34
        rw [hFi] at q
        have hSb := frs_sub hg6 q
        have hig : i < gn s := bit_lt hS hSb
        have hpk := pkT_le hA hc hP hig
        have hsw := swT_le hA hc hig
        have hgw := (g_to hA hig).2.2
        have hbu := burS_le hA (S - 2 ^ i) 6
        have hvl := valI_le hA hc hS hP hig
        have hre : S - 2 ^ i < 2 ^ gn s := Nat.lt_of_le_of_lt (Nat.sub_le _ _) hS
        have hpw : 0 < 2 ^ i := Nat.pow_pos (by decide)
        have hsb := sub_lt hSb
        refine r_aload_n g dX3_choose_37 rfl ?_
        refine r_aload_n g dX3_choose_38 rfl ?_
        refine r_iload_n g dX3_choose_39 rfl ?_
        refine r_iload g dX3_choose_40 rfl ?_
        refine r_pV g kX3_58 (ok_r_secondsTo _ _ _ _ s hA hc hW.1 (hG.fr hW.2 hd) hF hWF (Pl := Pl) (i := i) hP (by omega)) hW.1.1 rfl rfl rfl hnx hR (by decide) (Nat.zero_le _) (Nat.zero_le _) rfl rfl dX3_choose_42 ?_
        refine r_istore g dX3_choose_45 rfl rfl rfl ?_
        refine r_iload g dX3_choose_47 rfl ?_
        refine r_aload_n g dX3_choose_49 rfl ?_
        refine r_aload_n g dX3_choose_50 rfl ?_
        refine r_iload g dX3_choose_51 rfl ?_
        refine r_pV g kX3_62 (ok_r_secondsWith _ _ _ _ s hA hc hW.1 (hG.fr hW.2 hd) hF hWF (i := i) (by omega)) hW.1.1 rfl rfl rfl hnx hR (by decide) (Nat.zero_le _) (Nat.zero_le _) rfl rfl dX3_choose_53 ?_
        refine r_iadd g dX3_choose_56 ?_
        refine r_topi (y := (nI ((pkT s c Pl i) + (swT s c i)))) (nI_add (pkT s c Pl i) (swT s c i)) ?_
        refine r_istore g dX3_choose_57 rfl rfl rfl ?_
        refine r_iload_n g dX3_choose_59 rfl ?_
        refine r_iconst (v := 1) g dX3_choose_60 (by decide) ?_
        refine r_iload g dX3_choose_61 rfl ?_
        refine r_ishl g dX3_choose_63 ?_
        refine r_topi (y := (nI (2 ^ i))) (shl1 (by omega)) ?_
        refine r_iconst (v := (-1)) g dX3_choose_64 (by decide) ?_
        refine r_ixor g dX3_choose_65 ?_
        refine r_iand g dX3_choose_66 ?_
        refine r_topi (y := (nI (S - 2 ^ i))) (and_n1 S (by omega) i (by omega) hSb) ?_
        refine r_istore g dX3_choose_67 rfl rfl rfl ?_
        refine r_aload_n g dX3_choose_69 rfl ?_
        refine r_getf g fX3_66 (hG.fr hW.2 hd).1 rfl dX3_choose_70 ?_
        refine r_iload g dX3_choose_73 rfl ?_
        refine rg_iald 2 (j := i) g (hG.fr hW.2 hd) rfl rfl (show i < 6 by omega) dX3_choose_75 ?_
        refine r_topi (y := (nI (gw s i))) (hF i (by omega)).2.2.1 ?_
        refine r_i2l g dX3_choose_76 ?_
        refine r_topl (y := (lN (gw s i))) (nI_l (by omega)) ?_
        refine r_iload g dX3_choose_77 rfl ?_
        refine r_i2l g dX3_choose_79 ?_
        refine r_topl (y := (lN (pkT s c Pl i))) (nI_l (by omega)) ?_
        refine r_lmul g dX3_choose_80 ?_
        refine r_topl (y := (lN (gw s i * pkT s c Pl i))) (lN_mul _ _) ?_
        refine r_iload g dX3_choose_81 rfl ?_
        refine r_i2l g dX3_choose_83 ?_
        refine r_topl (y := (lN (pkT s c Pl i + swT s c i))) (nI_l (by omega)) ?_
        refine r_ladd g dX3_choose_84 ?_
        refine r_topl (y := (lN (gw s i * pkT s c Pl i + (pkT s c Pl i + swT s c i)))) (lN_add _ _) ?_
        refine r_iload g dX3_choose_85 rfl ?_
        refine r_iconst (v := 3) g dX3_choose_87 (by decide) ?_
        refine r_iadd g dX3_choose_88 ?_
        refine r_topi (y := (nI (((pkT s c Pl i) + (swT s c i)) + 3))) (nI_add ((pkT s c Pl i) + (swT s c i)) 3) ?_
        refine r_i2l g dX3_choose_89 ?_
        refine r_topl (y := (lN (pkT s c Pl i + swT s c i + 3))) (nI_l (by omega)) ?_
        refine r_aload_n g dX3_choose_90 rfl ?_
        refine r_getf g fX3_69 (hG.fr hW.2 hd).1 rfl dX3_choose_91 ?_
        refine r_iload g dX3_choose_94 rfl ?_
        refine rg_iald 6 (j := S - 2 ^ i) g (hG.fr hW.2 hd) rfl rfl (show S - 2 ^ i < 64 by omega) dX3_choose_96 ?_
        refine r_topi (y := (nI (burS s (S - 2 ^ i) 6))) (hB (S - 2 ^ i) (by omega)) ?_
        refine r_i2l g dX3_choose_97 ?_
        refine r_topl (y := (lN (burS s (S - 2 ^ i) 6))) (nI_l (by omega)) ?_
        refine r_lmul g dX3_choose_98 ?_
        refine r_topl (y := (lN ((pkT s c Pl i + swT s c i + 3) * burS s (S - 2 ^ i) 6))) (lN_mul _ _) ?_
        refine r_ladd g dX3_choose_99 ?_
        refine r_topl (y := (lN (gw s i * pkT s c Pl i + (pkT s c Pl i + swT s c i) + (pkT s c Pl i + swT s c i + 3) * burS s (S - 2 ^ i) 6))) (lN_add _ _) ?_
        refine r_aload_n g dX3_choose_100 rfl ?_
        refine r_getf g fX3_11 hW.1.1 rfl dX3_choose_101 ?_
        refine r_iload g dX3_choose_104 rfl ?_
        refine r_iload g dX3_choose_106 rfl ?_
        refine r_pS g kX3_19 (ok_r_cell _ _ _ _ (S := S - 2 ^ i) (Pl := i) (by omega) (by omega)) rfl rfl hnx hR (by decide) (Nat.zero_le _) (Nat.zero_le _) rfl rfl dX3_choose_108 ?_
        refine r_lald (j := (S - 2 ^ i) * 7 + i) g hW.1.2.1 rfl (show (S - 2 ^ i) * 7 + i < 448 by omega) (by decide) dX3_choose_111 ?_
        refine r_topl (y := (lN (bpc s c (S - 2 ^ i) i))) (((hfr _ (by omega)).1).trans (hCO i q)) ?_
        refine r_ladd g dX3_choose_112 ?_
        refine r_topl (y := (lN (valI s c S Pl i))) (lN_add _ _) ?_
        refine r_lstore g dX3_choose_113 rfl rfl rfl ?_
        refine r_lload g dX3_choose_115 rfl ?_
        refine r_aload_n g dX3_choose_117 rfl ?_
        refine r_getf g fX3_11 hW.1.1 rfl dX3_choose_118 ?_
        refine r_iload g dX3_choose_121 rfl ?_
        refine r_lald (j := S * 7 + Pl) g hW.1.2.1 rfl (show S * 7 + Pl < 448 by omega) (by decide) dX3_choose_123 ?_
        refine r_topl (y := (lN (curV (chF s c S Pl i)))) hI.1 ?_
        refine r_lcmp g dX3_choose_124 ?_
        refine r_if_ge 146 g dX3_choose_125 (by decide) (fun c125 => ?_) (fun c125 => ?_)
        · skip
          have q2 : ¬ valI s c S Pl i < curV (chF s c S Pl i) := fun z => absurd ((lg_cmp_ge _ _).mp c125) (by rw [pk_lLE (by have := hI.2.1; omega) (by omega)]; omega)
          refine r_iinc (v := (nI (i + 1))) g dX3_choose_146 rfl (nI_add i 1) rfl rfl ?_
          refine r_goto 20 g dX3_choose_149 (by decide) ?_
          refine r_le (ls2 := [some (.ref r), some (.ref gv), some (.int (nI S)), some (.int (nI Pl)), some (.int (nI Fi)), some (.int (nI (S * 7 + Pl))), some (.int (nI (i + 1))), none, none, none, none, none]) ⟨rfl, rfl, rfl, rfl, rfl, rfl, rfl, trivial⟩ ?_
          refine ih (i + 1) CO1 FI1 _ hW (by omega) ?_ hfr
          unfold CHI
          rw [chF_t q, bst_nl q2 (by omega)]
          exact hI
        · skip
          have q2 : valI s c S Pl i < curV (chF s c S Pl i) := Nat.lt_of_not_le (fun z => c125 ((lg_cmp_ge _ _).mpr ((pk_lLE (by have := hI.2.1; omega) (by omega)).mpr z)))
          refine r_aload_n g dX3_choose_128 rfl ?_
          refine r_getf g fX3_11 hW.1.1 rfl dX3_choose_129 ?_
          refine r_iload g dX3_choose_132 rfl ?_
          refine r_lload g dX3_choose_134 rfl ?_
          refine rr_last (j := S * 7 + Pl) g hW hbr rfl (show S * 7 + Pl < 448 by omega) dX3_choose_136 ?_
          intro h_1 hW
          refine r_aload_n g dX3_choose_137 rfl ?_
          refine r_getf g fX3_15 hW.1.1 rfl dX3_choose_138 ?_
          refine r_iload g dX3_choose_141 rfl ?_
          refine r_iload g dX3_choose_143 rfl ?_
          refine rr_iast (j := S * 7 + Pl) g hW hbr rfl (show S * 7 + Pl < 448 by omega) dX3_choose_145 ?_
          intro h_2 hW
          refine r_iinc (v := (nI (i + 1))) g dX3_choose_146 rfl (nI_add i 1) rfl rfl ?_
          refine r_goto 20 g dX3_choose_149 (by decide) ?_
          refine r_le (ls2 := [some (.ref r), some (.ref gv), some (.int (nI S)), some (.int (nI Pl)), some (.int (nI Fi)), some (.int (nI (S * 7 + Pl))), some (.int (nI (i + 1))), none, none, none, none, none]) ⟨rfl, rfl, rfl, rfl, rfl, rfl, rfl, trivial⟩ ?_
          refine ih (i + 1) _ _ _ hW (by omega) ?_ (fun j hj => ⟨(if_neg hj : _ = _).trans (hfr j hj).1, (pk_un hj).trans (hfr j hj).2⟩)
          unfold CHI
          rw [chF_t q, bst_lt q2]
          exact ⟨if_pos rfl, by show valI s c S Pl i ≤ _; omega, fun b hb => by cases hb; exact pk_us⟩
  refine r_iload_n g dX3_choose_0 rfl ?_
  refine r_iload_n g dX3_choose_1 rfl ?_
  refine r_pS g kX3_19 (ok_r_cell _ _ _ _ (S := S) (Pl := Pl) (by omega) (by omega)) rfl rfl hnx hR (by decide) (Nat.zero_le _) (Nat.zero_le _) rfl rfl dX3_choose_2 ?_
  refine r_istore g dX3_choose_5 rfl rfl rfl ?_
  refine r_aload_n g dX3_choose_7 rfl ?_
  refine r_getf g fX3_11 hW.1.1 rfl dX3_choose_8 ?_
  refine r_iload g dX3_choose_11 rfl ?_
  refine r_ldc2 g dX3_choose_13 vX3_56 ?_
  refine rr_last (j := S * 7 + Pl) g hW hbr rfl (show S * 7 + Pl < 448 by omega) dX3_choose_16 ?_
  intro h_3 hW
  refine r_iconst (v := 0) g dX3_choose_17 (by decide) ?_
  refine r_istore g dX3_choose_18 rfl rfl rfl ?_
  refine r_le (ls2 := [some (.ref r), some (.ref gv), some (.int (nI S)), some (.int (nI Pl)), some (.int (nI Fi)), some (.int (nI (S * 7 + Pl))), some (.int (nI 0)), none, none, none, none, none]) ⟨rfl, rfl, rfl, rfl, rfl, rfl, rfl, trivial⟩ ?_
  refine loop 6 0 _ _ _ hW (Nat.zero_add _) ⟨if_pos rfl, Nat.le_refl _, fun b hb => by cases hb⟩ (fun j hj => ⟨if_neg hj, rfl⟩)
