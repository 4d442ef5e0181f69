/-! 23: a call more never makes a row cheaper; dealing out slot by slot -/
theorem perms_cons {S x : Nat} {p : List Nat} (hS : S < 64) (h : x :: p ∈ perms S) : x < 6 ∧ S.testBit x = true ∧ p ∈ perms (S - 2 ^ x) := by
  by_cases e : S = 0
  · subst e
    rw [perms_0] at h
    cases List.mem_singleton.mp h
  · rw [perms_step S hS e, List.mem_flatMap] at h
    obtain ⟨i, h6, hi⟩ := h
    split at hi
    · next hb =>
      obtain ⟨q, hq, hqq⟩ := List.mem_map.mp hi
      cases hqq
      exact ⟨List.mem_range.mp h6, hb, hq⟩
    · cases hi
theorem perms_mk {S x : Nat} {p : List Nat} (hS : S < 64) (hx : x < 6) (hb : S.testBit x = true) (h : p ∈ perms (S - 2 ^ x)) : x :: p ∈ perms S := by
  have e : S ≠ 0 := by
    intro z
    rw [z, Nat.zero_testBit] at hb
    cases hb
  rw [perms_step S hS e, List.mem_flatMap]
  exact ⟨x, List.mem_range.mpr hx, by rw [if_pos hb]; exact List.mem_map.mpr ⟨p, h, rfl⟩⟩
theorem perms_nil {S : Nat} (hS : S < 64) (h : [] ∈ perms S) : S = 0 := by
  by_cases e : S = 0
  · exact e
  · rw [perms_step S hS e, List.mem_flatMap] at h
    obtain ⟨i, -, hi⟩ := h
    split at hi
    · obtain ⟨q, -, hq⟩ := List.mem_map.mp hi
      cases hq
    · cases hi
theorem perms_erase : ∀ (p : List Nat) (S i : Nat), S < 64 → i < 6 → S.testBit i = true → p ∈ perms S → p.erase i ∈ perms (S - 2 ^ i)
  | [], S, i, hS, _, hb, h => by
    rw [perms_nil hS h, Nat.zero_testBit] at hb
    cases hb
  | x :: p, S, i, hS, hi, hb, h => by
    obtain ⟨hx, hbx, hp⟩ := perms_cons hS h
    by_cases e : x = i
    · subst e
      rw [List.erase_cons_head]
      exact hp
    · rw [List.erase_cons_tail (by simpa using e)]
      have h1 := perms_erase p (S - 2 ^ x) i (sub_64 hS x) hi (by rw [sub_bit S hS x hx hbx i hi, hb]; simpa using fun z : i = x => e z.symm) hp
      refine perms_mk (sub_64 hS i) hx (by rw [sub_bit S hS i hi hb x hx, hbx]; simpa using e) ?_
      rw [Nat.sub_right_comm]
      exact h1
theorem dist_tri (a b c : Nat) : dist a c ≤ dist a b + dist b c := by
  unfold dist
  split <;> split <;> split <;> omega
theorem dist_0 (a : Nat) : dist a a = 0 := by
  unfold dist
  rw [if_neg (Nat.lt_irrefl a), Nat.sub_self]
theorem dist_trs (a b c sp : Nat) : dist a c * sp ≤ dist a b * sp + dist b c * sp := by
  rw [← Nat.add_mul]
  exact Nat.mul_le_mul_right _ (dist_tri a b c)
theorem rowC_tri (sp : Nat) (fr to w : Nat → Nat) : ∀ (r : List Nat) (pl pl' t t' : Nat), t + dist pl pl' * sp ≤ t' → rowC sp fr to w pl t r ≤ rowC sp fr to w pl' t' r
  | [], _, _, _, _, _ => Nat.le_refl _
  | x :: r, pl, pl', t, t', h => by
    have h1 := dist_trs pl pl' (fr x) sp
    have ha : t + dist pl (fr x) * sp ≤ t' + dist pl' (fr x) * sp := by omega
    have ih := rowC_tri sp fr to w r (to x) (to x) (t + dist pl (fr x) * sp + (3 + dist (fr x) (to x) * sp) + 3) (t' + dist pl' (fr x) * sp + (3 + dist (fr x) (to x) * sp) + 3) (by rw [dist_0, Nat.zero_mul]; omega)
    have hm := Nat.mul_le_mul_left (w x) ha
    unfold rowC
    omega
theorem rowC_erase (sp : Nat) (fr to w : Nat → Nat) : ∀ (r : List Nat) (pl t i : Nat), rowC sp fr to w pl t (r.erase i) ≤ rowC sp fr to w pl t r
  | [], _, _, _ => Nat.le_refl _
  | x :: r, pl, t, i => by
    by_cases e : x = i
    · subst e
      rw [List.erase_cons_head]
      have h1 := dist_trs pl (fr x) (to x) sp
      have h2 := rowC_tri sp fr to w r pl (to x) t (t + dist pl (fr x) * sp + (3 + dist (fr x) (to x) * sp) + 3) (by omega)
      refine Nat.le_trans h2 ?_
      show _ ≤ _ + _
      omega
    · rw [List.erase_cons_tail (by simpa using e)]
      have ih := rowC_erase sp fr to w r (to x) (t + dist pl (fr x) * sp + (3 + dist (fr x) (to x) * sp) + 3) i
      show _ + _ ≤ _ + _
      omega
theorem top_bit {S i j : Nat} (hS : S < 2 ^ i) : (S + 2 ^ i).testBit j = (S.testBit j || decide (j = i)) := by
  rw [Nat.add_comm]
  by_cases e : j = i
  · subst e
    rw [Nat.testBit_two_pow_add_eq, Nat.testBit_lt_two_pow hS, decide_eq_true rfl]
    rfl
  · rw [decide_eq_false e, Bool.or_false]
    by_cases e2 : j < i
    · exact Nat.testBit_two_pow_add_gt e2 S
    · have hp : 2 ^ (i + 1) ≤ 2 ^ j := Nat.pow_le_pow_right (by decide) (by omega)
      have h2 : 2 ^ (i + 1) = 2 ^ i + 2 ^ i := by rw [Nat.pow_succ]; omega
      rw [Nat.testBit_lt_two_pow (show 2 ^ i + S < 2 ^ j by omega), Nat.testBit_lt_two_pow (show S < 2 ^ j by omega)]
theorem gcst_mono {s : AS} (hA : AI s) {c S i : Nat} (hc : c < s.1 2) (hS : S < 2 ^ i) (hi : i < gn s) : gcst s c S ≤ gcst s c (S + 2 ^ i) := by
  have hg := gn_le hA
  have h64 := g6_64 hg
  have hc4 : c ≠ 4 := by have := hA.2.2.1; omega
  have h2i : 2 ^ i + 2 ^ i ≤ 2 ^ gn s := by
    have : 2 ^ (i + 1) ≤ 2 ^ gn s := Nat.pow_le_pow_right (by decide) hi
    rw [Nat.pow_succ] at this
    omega
  have g1 := gbest_at hA hc (show S < 2 ^ gn s by omega)
  have g2 := gbest_at hA hc (show S + 2 ^ i < 2 ^ gn s by omega)
  have hbi : (S + 2 ^ i).testBit i = true := by rw [top_bit hS, decide_eq_true rfl, Bool.or_true]
  have hnb : S.testBit i = false := Nat.testBit_lt_two_pow hS
  have he := perms_erase _ _ i (show S + 2 ^ i < 64 by omega) (by omega) hbi g2.2.1
  rw [Nat.add_sub_cancel] at he
  have hok : okF (firstF s c S (gn s)) ((grow s c (S + 2 ^ i)).erase i) = true := by
    by_cases h6 : firstF s c S (gn s) = 6
    · unfold okF
      rw [decide_eq_true h6]
      rfl
    · obtain ⟨hf6, hfg, hfb, hfc⟩ := firstF_bit hg h6
      have hT := firstF_of hA (S := S + 2 ^ i) hc4 hfg (by rw [top_bit hS, hfb]; rfl) hfc
      have h3 := g2.2.2.1
      rw [hT] at h3
      unfold okF at h3 ⊢
      rw [decide_eq_false h6, Bool.false_or] at h3 ⊢
      cases hp : grow s c (S + 2 ^ i) with
      | nil =>
        rw [hp] at g2
        have := perms_nil (show S + 2 ^ i < 64 by omega) g2.2.1
        have : 0 < 2 ^ i := Nat.pow_pos (by decide)
        omega
      | cons x p =>
        rw [hp] at h3
        have hx : x = firstF s c S (gn s) := of_decide_eq_true h3
        have hxi : x ≠ i := by
          intro z
          rw [← hx, z, hnb] at hfb
          cases hfb
        rw [List.erase_cons_tail (by simpa using hxi)]
        exact h3
  refine Nat.le_trans ((brs_le _ _ _ _ _ _ g1.1).2 _ he hok) ?_
  rw [g2.2.2.2]
  exact rowC_erase _ _ _ _ _ _ _ _
def psumF (s : AS) (d : List Nat) (m : Nat) : Nat → Nat
  | 0 => 0
  | c + 1 => psumF s d m c + gcst s c (setO d c m)
theorem psumF_gtot (s : AS) (d : List Nat) : ∀ c, psumF s d (gn s) c = gtotF s d c
  | 0 => rfl
  | c + 1 => by
    show psumF s d (gn s) c + _ = gtotF s d c + _
    rw [psumF_gtot s d c]
theorem setO_app (d x : List Nat) (c : Nat) : ∀ m, m ≤ d.length → setO (d ++ x) c m = setO d c m
  | 0, _ => rfl
  | m + 1, h => by
    have ih := setO_app d x c m (by omega)
    show setO (d ++ x) c m + (if (d ++ x).getD m 0 = c then 2 ^ m else 0) = setO d c m + (if d.getD m 0 = c then 2 ^ m else 0)
    rw [ih, List.getD_eq_getElem?_getD, List.getD_eq_getElem?_getD, List.getElem?_append_left (by omega)]
theorem setO_snoc (d : List Nat) (c c' : Nat) : setO (d ++ [c]) c' (d.length + 1) = setO d c' d.length + (if c = c' then 2 ^ d.length else 0) := by
  show setO (d ++ [c]) c' d.length + (if (d ++ [c]).getD d.length 0 = c' then 2 ^ d.length else 0) = _
  rw [setO_app d [c] c' d.length (Nat.le_refl _), List.getD_eq_getElem?_getD, List.getElem?_append_right (Nat.le_refl _), Nat.sub_self]
  rfl
theorem psumF_app (s : AS) (d x : List Nat) {m : Nat} (h : m ≤ d.length) : ∀ c, psumF s (d ++ x) m c = psumF s d m c
  | 0 => rfl
  | c + 1 => by
    show psumF s (d ++ x) m c + gcst s c (setO (d ++ x) c m) = psumF s d m c + gcst s c (setO d c m)
    rw [psumF_app s d x h c, setO_app d x c m h]
theorem psumF_snoc (s : AS) (d : List Nat) (c : Nat) : ∀ k, psumF s (d ++ [c]) (d.length + 1) k + (if c < k then gcst s c (setO d c d.length) else 0) = psumF s d d.length k + (if c < k then gcst s c (setO d c d.length + 2 ^ d.length) else 0)
  | 0 => by rw [if_neg (Nat.not_lt_zero _), if_neg (Nat.not_lt_zero _)]; rfl
  | k + 1 => by
    have ih := psumF_snoc s d c k
    show psumF s (d ++ [c]) (d.length + 1) k + gcst s k (setO (d ++ [c]) k (d.length + 1)) + _ = psumF s d d.length k + gcst s k (setO d k d.length) + _
    rw [setO_snoc]
    by_cases e : c = k
    · subst e
      rw [if_neg (Nat.lt_irrefl _), if_neg (Nat.lt_irrefl _)] at ih
      rw [if_pos rfl, if_pos (Nat.lt_succ_self _), if_pos (Nat.lt_succ_self _)]
      omega
    · simp only [if_neg e, Nat.add_zero]
      by_cases e2 : c < k
      · rw [if_pos e2, if_pos e2] at ih
        rw [if_pos (show c < k + 1 by omega), if_pos (show c < k + 1 by omega)]
        omega
      · rw [if_neg e2, if_neg e2] at ih
        rw [if_neg (show ¬ c < k + 1 by omega), if_neg (show ¬ c < k + 1 by omega)]
        omega
theorem psumF_le (s : AS) (d : List Nat) (m : Nat) {c : Nat} : ∀ k, c < k → gcst s c (setO d c m) ≤ psumF s d m k
  | 0, h => absurd h (Nat.not_lt_zero _)
  | k + 1, h => by
    show _ ≤ psumF s d m k + gcst s k (setO d k m)
    by_cases e : c = k
    · subst e; omega
    · have := psumF_le s d m (c := c) k (by omega)
      omega
theorem psumF_up {s : AS} (hA : AI s) (d : List Nat) {m : Nat} (hm : m < gn s) : ∀ k, k ≤ s.1 2 → psumF s d m k ≤ psumF s d (m + 1) k
  | 0, _ => Nat.le_refl _
  | k + 1, hk => by
    have ih := psumF_up hA d hm k (by omega)
    show psumF s d m k + gcst s k (setO d k m) ≤ psumF s d (m + 1) k + gcst s k (setO d k m + (if d.getD m 0 = k then 2 ^ m else 0))
    by_cases e : d.getD m 0 = k
    · rw [if_pos e]
      have := gcst_mono hA (show k < s.1 2 by omega) (setO_lt d k m) hm
      omega
    · simp only [if_neg e, Nat.add_zero]
      omega
theorem psumF_end {s : AS} (hA : AI s) (d : List Nat) : ∀ r m, m + r = gn s → psumF s d m (s.1 2) ≤ gtot s d
  | 0, m, h => by
    have e : m = gn s := by omega
    subst e
    exact Nat.le_of_eq (psumF_gtot s d _)
  | r + 1, m, h => Nat.le_trans (psumF_up hA d (by omega) _ (Nat.le_refl _)) (psumF_end hA d r (m + 1) (by omega))
/-- a way begun costs no more than each of its ends -/
theorem psum_pr {s : AS} (hA : AI s) {d x : List Nat} {r : Nat} (h : d.length + r = gn s) : psumF s d d.length (s.1 2) ≤ gtot s (d ++ x) := by
  rw [← psumF_app s d x (Nat.le_refl _)]
  exact psumF_end hA _ r _ h
/-- the least of the ways so far, car by car for the next slot -/
def accC (s : AS) (d : List Nat) (r : Nat) (a : Option (Nat × List Nat)) : Nat → Option (Nat × List Nat)
  | 0 => a
  | c + 1 => brs (gtot s) (ggood s) ((asg r).map (fun x => (d ++ [c]) ++ x)) (accC s d r a c)
def accE (s : AS) (d : List Nat) (r : Nat) (a : Option (Nat × List Nat)) : Option (Nat × List Nat) := brs (gtot s) (ggood s) ((asg r).map (fun x => d ++ x)) a
theorem map_pre (d : List Nat) (c r : Nat) : ((asg r).map (fun x => c :: x)).map (fun x => d ++ x) = (asg r).map (fun x => (d ++ [c]) ++ x) := by
  rw [List.map_map]
  exact List.map_congr_left (fun x _ => by show d ++ c :: x = d ++ [c] ++ x; rw [List.append_assoc]; rfl)
theorem accC_4 (s : AS) (d : List Nat) (r : Nat) (a : Option (Nat × List Nat)) : accC s d r a 4 = accE s d (r + 1) a := by
  have e : asg (r + 1) = (asg r).map (fun x => 0 :: x) ++ ((asg r).map (fun x => 1 :: x) ++ ((asg r).map (fun x => 2 :: x) ++ ((asg r).map (fun x => 3 :: x) ++ []))) := rfl
  unfold accE
  rw [e, List.append_nil, List.map_append, List.map_append, List.map_append, brs_append, brs_append, brs_append, map_pre, map_pre, map_pre, map_pre]
  rfl
theorem accE_0 (s : AS) (d : List Nat) (a : Option (Nat × List Nat)) : accE s d 0 a = if ggood s d = true then bst (gtot s) d a else a := by
  unfold accE
  show brs _ _ [d ++ []] a = _
  rw [List.append_nil]
  rfl
def curA (a : Option (Nat × List Nat)) : Nat := match a with
  | none => 1152921504606846976
  | some b => b.1
theorem bst_ltA {f : List Nat → Nat} {p : List Nat} {a : Option (Nat × List Nat)} (h : f p < curA a) : bst f p a = some (f p, p) := by
  cases a with
  | none => rfl
  | some b => rw [bst_s]; exact if_pos h
theorem app_at (d x : List Nat) (c : Nat) : (d ++ [c] ++ x).getD d.length 0 = c := by
  rw [List.getD_eq_getElem?_getD, List.append_assoc, List.getElem?_append_right (Nat.le_refl _), Nat.sub_self]
  rfl
/-- no way for a car that the slot may not have -/
theorem accC_no {s : AS} {d : List Nat} {r c : Nat} {a : Option (Nat × List Nat)} (hm : d.length < gn s) (h : (carsN s (gk s d.length)).testBit c = false) : accC s d r a (c + 1) = accC s d r a c := by
  refine brs_no _ _ _ _ (fun p hp => ?_)
  obtain ⟨x, -, rfl⟩ := List.mem_map.mp hp
  cases hg : ggood s (d ++ [c] ++ x) with
  | false => rfl
  | true =>
    have := (ggood_iff _).mp hg _ hm
    rw [app_at, h] at this
    cases this
theorem accC_pr {s : AS} (hA : AI s) {d : List Nat} {r c : Nat} {a : Option (Nat × List Nat)} (hm : d.length + (r + 1) = gn s) (h : ¬ psumF s (d ++ [c]) (d.length + 1) (s.1 2) < curA (accC s d r a c)) (h2 : psumF s (d ++ [c]) (d.length + 1) (s.1 2) < 1152921504606846976) : accC s d r a (c + 1) = accC s d r a c := by
  show brs _ _ _ (accC s d r a c) = accC s d r a c
  cases hc : accC s d r a c with
  | none => rw [hc] at h; exact absurd h2 h
  | some b =>
    rw [hc] at h
    refine brs_ge _ _ _ _ (fun q hq _ => ?_)
    obtain ⟨x, -, rfl⟩ := List.mem_map.mp hq
    have hl : (d ++ [c]).length = d.length + 1 := by rw [List.length_append]; rfl
    have := psum_pr hA (d := d ++ [c]) (x := x) (r := r) (by rw [hl]; omega)
    rw [hl] at this
    exact Nat.le_trans (Nat.le_of_not_lt h) this
