/-! 19: the least over the orders is the least over the firsts -/
def mrg {α : Type} (a b : Option (Nat × α)) : Option (Nat × α) := match a with
  | none => b
  | some x => match b with
    | none => some x
    | some y => if y.1 < x.1 then some y else some x
theorem mrg_n {α : Type} (a : Option (Nat × α)) : mrg a none = a := by cases a <;> rfl
theorem mrg_ss {α : Type} (x y : Nat × α) : mrg (some x) (some y) = if y.1 < x.1 then some y else some x := rfl
theorem bst_mrg {α : Type} (f : α → Nat) (p : α) (a : Option (Nat × α)) : bst f p a = mrg a (some (f p, p)) := by cases a <;> rfl
theorem mrg_as {α : Type} (a b c : Option (Nat × α)) : mrg (mrg a b) c = mrg a (mrg b c) := by
  cases a with
  | none => rfl
  | some x => cases b with
    | none => rfl
    | some y => cases c with
      | none => rw [mrg_n, mrg_n]
      | some z =>
        rw [mrg_ss x y, mrg_ss y z]
        by_cases h1 : y.1 < x.1
        · rw [if_pos h1, mrg_ss y z]
          by_cases h2 : z.1 < y.1
          · rw [if_pos h2, mrg_ss, if_pos (by omega)]
          · rw [if_neg h2, mrg_ss, if_pos h1]
        · rw [if_neg h1, mrg_ss x z]
          by_cases h2 : z.1 < y.1
          · rw [if_pos h2, mrg_ss]
          · rw [if_neg h2, mrg_ss, if_neg h1, if_neg (by omega)]
theorem brs_acc {α : Type} (f : α → Nat) (ok : α → Bool) : ∀ (l : List α) (a : Option (Nat × α)), brs f ok l a = mrg a (brs f ok l none)
  | [], a => (mrg_n a).symm
  | p :: ps, a => by
    rw [brs_cons, brs_cons]
    by_cases h : ok p = true
    · rw [if_pos h, if_pos h, brs_acc f ok ps (bst f p a), brs_acc f ok ps (bst f p none), bst_mrg, bst_mrg, mrg_as]
      rfl
    · rw [if_neg h, if_neg h]
      exact brs_acc f ok ps a
theorem brs_no {α : Type} (f : α → Nat) (ok : α → Bool) : ∀ (l : List α) (a : Option (Nat × α)), (∀ p, p ∈ l → ok p = false) → brs f ok l a = a
  | [], _, _ => rfl
  | p :: ps, a, h => by
    rw [brs_cons, if_neg (by rw [h p List.mem_cons_self]; decide)]
    exact brs_no f ok ps a (fun q hq => h q (List.mem_cons_of_mem _ hq))
def shf {α β : Type} (K : Nat) (w : β → α) (a : Option (Nat × β)) : Option (Nat × α) := a.map (fun b => (K + b.1, w b.2))
theorem shf_mrg {α β : Type} (K : Nat) (w : β → α) (a b : Option (Nat × β)) : shf K w (mrg a b) = mrg (shf K w a) (shf K w b) := by
  cases a with
  | none => rfl
  | some x => cases b with
    | none => rfl
    | some y =>
      show shf K w (if y.1 < x.1 then some y else some x) = if K + y.1 < K + x.1 then some (K + y.1, w y.2) else some (K + x.1, w x.2)
      by_cases h : y.1 < x.1
      · rw [if_pos h, if_pos (by omega)]; rfl
      · rw [if_neg h, if_neg (by omega)]; rfl
theorem brs_map {α β : Type} (f : α → Nat) (ok : α → Bool) (g : β → Nat) (w : β → α) (K : Nat) : ∀ l : List β, (∀ q, q ∈ l → ok (w q) = true ∧ f (w q) = K + g q) → brs f ok (l.map w) none = shf K w (brs g (fun _ => true) l none)
  | [], _ => rfl
  | p :: ps, h => by
    rw [List.map_cons, brs_cons, brs_cons, if_pos (h p List.mem_cons_self).1, if_pos rfl, bst_n, bst_n, brs_acc f ok, brs_acc g, brs_map f ok g w K ps (fun q hq => h q (List.mem_cons_of_mem _ hq)), (h p List.mem_cons_self).2, shf_mrg]
    rfl
theorem brs_le {α : Type} (f : α → Nat) (ok : α → Bool) : ∀ (l : List α) (a : Option (Nat × α)) (v : Nat) (r : α), brs f ok l a = some (v, r) → (∀ b, a = some b → v ≤ b.1) ∧ ∀ q, q ∈ l → ok q = true → v ≤ f q
  | [], a, v, r, h => ⟨fun b hb => by rw [show brs f ok [] a = a from rfl, hb] at h; cases h; exact Nat.le_refl _, fun q hq => by cases hq⟩
  | p :: ps, a, v, r, h => by
    rw [brs_cons] at h
    have ih := brs_le f ok ps _ v r h
    by_cases hp : ok p = true
    · rw [if_pos hp] at ih
      have h1 : v ≤ f p ∧ ∀ b, a = some b → v ≤ b.1 := by
        cases a with
        | none => exact ⟨ih.1 _ rfl, fun b hb => by cases hb⟩
        | some b =>
          rw [bst_s] at ih
          by_cases hl : f p < b.1
          · rw [if_pos hl] at ih
            have := ih.1 _ rfl
            exact ⟨this, fun c hc => by cases hc; exact Nat.le_of_lt (Nat.lt_of_le_of_lt this hl)⟩
          · rw [if_neg hl] at ih
            have := ih.1 _ rfl
            exact ⟨by omega, fun c hc => by cases hc; exact this⟩
      exact ⟨h1.2, fun q hq hok => by
        rcases List.mem_cons.mp hq with e | e
        · rw [e]; exact h1.1
        · exact ih.2 q e hok⟩
    · rw [if_neg hp] at ih
      exact ⟨ih.1, fun q hq hok => by
        rcases List.mem_cons.mp hq with e | e
        · rw [e] at hok; exact absurd hok hp
        · exact ih.2 q e hok⟩
theorem brs_ge {α : Type} (f : α → Nat) (ok : α → Bool) : ∀ (l : List α) (b : Nat × α), (∀ q, q ∈ l → ok q = true → b.1 ≤ f q) → brs f ok l (some b) = some b
  | [], _, _ => rfl
  | p :: ps, b, h => by
    rw [brs_cons]
    have ih := brs_ge f ok ps b (fun q hq => h q (List.mem_cons_of_mem _ hq))
    by_cases hp : ok p = true
    · rw [if_pos hp, bst_s, if_neg (by have := h p List.mem_cons_self hp; omega)]; exact ih
    · rw [if_neg hp]; exact ih
theorem sub_64 {S : Nat} (h : S < 64) (i : Nat) : S - 2 ^ i < 64 := Nat.lt_of_le_of_lt (Nat.sub_le _ _) h
theorem okP_6 {s : AS} {c S P : Nat} (h : P < 6) : okP s c S P = fun _ => true := by
  funext p; unfold okP; rw [if_pos h]
theorem bp_in {s : AS} {c S i : Nat} (h : i < 6) : bp s c S i = brs (pcst s c i) (fun _ => true) (perms S) none := by
  unfold bp; rw [okP_6 h]
theorem bp_in_at {s : AS} {c S i : Nat} (h : i < 6) (hS : S < 64) : bp s c S i = some (bpc s c S i, bpr s c S i) := by
  have h1 : bp s c S i ≠ none := by
    rw [bp_in h]
    refine brs_some _ _ _ _ (Or.inr ?_)
    cases hp : perms S with
    | nil => exact absurd hp (perms_ne S hS)
    | cons p l => exact ⟨p, List.mem_cons_self, rfl⟩
  cases hb : bp s c S i with
  | none => exact absurd hb h1
  | some b => unfold bpc bpr; rw [hb]; rfl
def preI (s : AS) (c P i : Nat) : Nat := gw s i * (tpl s c P + dist (plc s c P) (gfr s i) * s.2.1 c 0) + (tpl s c P + dist (plc s c P) (gfr s i) * s.2.1 c 0 + (3 + dist (gfr s i) (gto s i) * s.2.1 c 0))
theorem pcst_cons {s : AS} {c P i S : Nat} (h : i < 6) (hS : S < 64) {q : List Nat} (hq : q ∈ perms (S - 2 ^ i)) : pcst s c P (i :: q) = preI s c P i + (tpl s c P + dist (plc s c P) (gfr s i) * s.2.1 c 0 + (3 + dist (gfr s i) (gto s i) * s.2.1 c 0) + 3) * burS s (S - 2 ^ i) 6 + pcst s c i q := by
  have h1 : plc s c i = gto s i := if_pos h
  have h2 : tpl s c i = 0 := if_pos h
  have h3 := rowC_lin (s.2.1 c 0) s (tpl s c P + dist (plc s c P) (gfr s i) * s.2.1 c 0 + (3 + dist (gfr s i) (gto s i) * s.2.1 c 0) + 3) q (gto s i) 0
  rw [Nat.zero_add, bur_perm q _ (sub_64 hS i) hq] at h3
  show preI s c P i + rowC (s.2.1 c 0) (gfr s) (gto s) (gw s) (gto s i) (tpl s c P + dist (plc s c P) (gfr s i) * s.2.1 c 0 + (3 + dist (gfr s i) (gto s i) * s.2.1 c 0) + 3) q = _
  rw [h3]
  unfold pcst
  rw [h1, h2]
  omega
theorem firstF_bit {s : AS} {c S : Nat} (hg : gn s ≤ 6) (h : firstF s c S (gn s) ≠ 6) : firstF s c S (gn s) < 6 ∧ firstF s c S (gn s) < gn s ∧ S.testBit (firstF s c S (gn s)) = true ∧ s.2.2 (gk s (firstF s c S (gn s))) 5 = c := by
  rcases firstF_at s c S (gn s) hg with z | z
  · exact absurd z h
  · exact ⟨by omega, z.1, z.2.1, z.2.2⟩
/-- the orders that begin with slot i -/
theorem blk {s : AS} (hg : gn s ≤ 6) {c S P i : Nat} (hS : S < 64) (hi : i < 6) : brs (pcst s c P) (okP s c S P) (if S.testBit i = true then (perms (S - 2 ^ i)).map (fun p => i :: p) else []) none = if (frs s c S P).testBit i = true then some (valI s c S P i, i :: bpr s c (S - 2 ^ i) i) else none := by
  by_cases hb : S.testBit i = true
  · rw [if_pos hb]
    have hok : ∀ q : List Nat, okP s c S P (i :: q) = (frs s c S P).testBit i := by
      intro q
      unfold okP frs
      by_cases h6 : P < 6
      · rw [if_pos h6, if_pos h6, hb]
      · rw [if_neg h6, if_neg h6]
        unfold okF
        by_cases hf : firstF s c S (gn s) = 6
        · rw [if_pos hf, decide_eq_true hf, hb]; rfl
        · rw [if_neg hf, decide_eq_false hf, Nat.testBit_two_pow]
          show decide (i = _) = _
          exact decide_eq_decide.mpr ⟨fun h => h.symm, fun h => h.symm⟩
    by_cases ho : (frs s c S P).testBit i = true
    · rw [if_pos ho, brs_map (pcst s c P) (okP s c S P) (pcst s c i) (fun p => i :: p) (preI s c P i + (tpl s c P + dist (plc s c P) (gfr s i) * s.2.1 c 0 + (3 + dist (gfr s i) (gto s i) * s.2.1 c 0) + 3) * burS s (S - 2 ^ i) 6) _ (fun q hq => ⟨by rw [hok q, ho], pcst_cons hi hS hq⟩), ← bp_in hi, bp_in_at hi (sub_64 hS i)]
      rfl
    · rw [if_neg ho]
      refine brs_no _ _ _ _ (fun p hp => ?_)
      obtain ⟨q, -, rfl⟩ := List.mem_map.mp hp
      rw [hok q]
      simpa using ho
  · rw [if_neg hb]
    have : (frs s c S P).testBit i = false := by
      unfold frs
      by_cases h6 : P < 6
      · rw [if_pos h6]; simpa using hb
      · rw [if_neg h6]
        by_cases hf : firstF s c S (gn s) = 6
        · rw [if_pos hf]; simpa using hb
        · rw [if_neg hf, Nat.testBit_two_pow]
          refine decide_eq_false (fun e => hb ?_)
          rw [← e]; exact (firstF_bit hg hf).2.2.1
    rw [if_neg (by rw [this]; decide)]
    rfl
theorem chs_l {s : AS} (hg : gn s ≤ 6) {c S P : Nat} (hS : S < 64) : ∀ L : List Nat, (∀ i, i ∈ L → i < 6) → brs (pcst s c P) (okP s c S P) (L.flatMap (fun i => if S.testBit i = true then (perms (S - 2 ^ i)).map (fun p => i :: p) else [])) none = (brs (valI s c S P) (fun i => (frs s c S P).testBit i) L none).map (fun b => (b.1, b.2 :: bpr s c (S - 2 ^ b.2) b.2))
  | [], _ => rfl
  | i :: L, h => by
    have ih := chs_l hg (c := c) (P := P) hS L (fun j hj => h j (List.mem_cons_of_mem _ hj))
    rw [List.flatMap_cons, brs_append, brs_acc, blk hg hS (h i List.mem_cons_self), ih, brs_cons]
    by_cases ho : (frs s c S P).testBit i = true
    · rw [if_pos ho, if_pos ho, bst_n, brs_acc (valI s c S P) _ L (some _)]
      cases brs (valI s c S P) (fun i => (frs s c S P).testBit i) L none with
      | none => rfl
      | some b =>
        show (if b.1 < valI s c S P i then _ else _) = Option.map _ (if b.1 < valI s c S P i then _ else _)
        split <;> rfl
    · rw [if_neg ho, if_neg ho]
      rfl
theorem bp_chs {s : AS} (hg : gn s ≤ 6) {c S P : Nat} (hS : S < 64) (h0 : S ≠ 0) : bp s c S P = (chs s c S P).map (fun b => (b.1, b.2 :: bpr s c (S - 2 ^ b.2) b.2)) := by
  unfold bp chs
  rw [perms_step S hS h0]
  exact chs_l hg hS _ (fun i hi => List.mem_range.mp hi)
def bpi (s : AS) (c S P : Nat) : Nat := ((chs s c S P).getD (0, 0)).2
theorem bit_ne : ∀ S, S < 64 → S ≠ 0 → ∃ i, i < 6 ∧ S.testBit i = true := by decide +kernel
theorem frs_ne {s : AS} (hg : gn s ≤ 6) {c S P : Nat} (hS : S < 64) (h0 : S ≠ 0) : ∃ i, i < 6 ∧ (frs s c S P).testBit i = true := by
  unfold frs
  by_cases h6 : P < 6
  · rw [if_pos h6]; exact bit_ne S hS h0
  · rw [if_neg h6]
    by_cases hf : firstF s c S (gn s) = 6
    · rw [if_pos hf]; exact bit_ne S hS h0
    · rw [if_neg hf]; exact ⟨_, (firstF_bit hg hf).1, Nat.testBit_two_pow_self⟩
theorem frs_sub {s : AS} (hg : gn s ≤ 6) {c S P i : Nat} (h : (frs s c S P).testBit i = true) : S.testBit i = true := by
  unfold frs at h
  by_cases h6 : P < 6
  · rw [if_pos h6] at h; exact h
  · rw [if_neg h6] at h
    by_cases hf : firstF s c S (gn s) = 6
    · rw [if_pos hf] at h; exact h
    · rw [if_neg hf, Nat.testBit_two_pow] at h
      rw [← of_decide_eq_true h]; exact (firstF_bit hg hf).2.2.1
theorem chs_at {s : AS} (hg : gn s ≤ 6) {c S P : Nat} (hS : S < 64) (h0 : S ≠ 0) : chs s c S P = some (bpc s c S P, bpi s c S P) ∧ bpi s c S P < 6 ∧ (frs s c S P).testBit (bpi s c S P) = true ∧ S.testBit (bpi s c S P) = true ∧ bpr s c S P = bpi s c S P :: bpr s c (S - 2 ^ bpi s c S P) (bpi s c S P) ∧ bpc s c S P = valI s c S P (bpi s c S P) := by
  have hne : chs s c S P ≠ none := by
    obtain ⟨i, h1, h2⟩ := frs_ne (s := s) hg (c := c) (P := P) hS h0
    exact brs_some _ _ _ _ (Or.inr ⟨i, List.mem_range.mpr h1, h2⟩)
  have hb := bp_chs (s := s) hg (c := c) (P := P) hS h0
  cases hc : chs s c S P with
  | none => exact absurd hc hne
  | some b =>
    rw [hc] at hb
    have e1 : bpi s c S P = b.2 := by unfold bpi; rw [hc]; rfl
    have e2 : bpc s c S P = b.1 := by unfold bpc; rw [hb]; rfl
    have e3 : bpr s c S P = b.2 :: bpr s c (S - 2 ^ b.2) b.2 := by
      show ((bp s c S P).getD (0, [])).2 = _
      rw [hb]; rfl
    rcases brs_at _ _ _ _ b.1 b.2 hc with h | ⟨h1, h2, h3⟩
    · cases h
    · rw [e1, e2, e3]
      exact ⟨rfl, List.mem_range.mp h1, h2, frs_sub hg h2, rfl, h3⟩
theorem firstF_0S (s : AS) (c : Nat) : ∀ n, firstF s c 0 n = 6
  | 0 => rfl
  | n + 1 => by unfold firstF; rw [if_neg (by rw [Nat.zero_testBit]; exact fun h => by cases h.1)]; exact firstF_0S s c n
theorem bp_0 (s : AS) (c P : Nat) : bpc s c 0 P = 0 ∧ bpr s c 0 P = [] := by
  have h : bp s c 0 P = some (0, []) := by
    unfold bp
    rw [perms_0, brs_cons, if_pos (by unfold okP; rw [firstF_0S]; split <;> rfl)]
    rfl
  unfold bpc bpr
  rw [h]
  exact ⟨rfl, rfl⟩
theorem burS_le {s : AS} (hA : AI s) (S : Nat) : ∀ n, burS s S n ≤ n * 13337
  | 0 => Nat.le_refl _
  | n + 1 => by
    have h1 := burS_le hA S n
    have h2 : gw s n ≤ 13336 := wgt_le hA _
    unfold burS
    rw [Nat.succ_mul]
    refine Nat.add_le_add h1 ?_
    split
    · exact Nat.succ_le_succ h2
    · exact Nat.zero_le _
