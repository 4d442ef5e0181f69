/-! 14: facts of the giving -/
theorem brs_append {α : Type} (f : α → Nat) (ok : α → Bool) : ∀ (l1 l2 : List α) (a : Option (Nat × α)), brs f ok (l1 ++ l2) a = brs f ok l2 (brs f ok l1 a)
  | [], _, _ => rfl
  | p :: ps, l2, a => by
    rw [List.cons_append, brs_cons, brs_cons]
    exact brs_append f ok ps l2 _
theorem bst_or {α : Type} (f : α → Nat) (p : α) (a : Option (Nat × α)) : bst f p a = a ∨ bst f p a = some (f p, p) := by
  cases a with
  | none => exact Or.inr rfl
  | some b =>
    rw [bst_s]
    split
    · exact Or.inr rfl
    · exact Or.inl rfl
theorem bst_ne {α : Type} (f : α → Nat) (p : α) (a : Option (Nat × α)) : bst f p a ≠ none := by
  cases a with
  | none => rw [bst_n]; exact fun h => by cases h
  | some b => rw [bst_s]; split <;> exact fun h => by cases h
theorem brs_at {α : Type} (f : α → Nat) (ok : α → Bool) : ∀ (l : List α) (a : Option (Nat × α)) (v : Nat) (r : α), brs f ok l a = some (v, r) → a = some (v, r) ∨ (r ∈ l ∧ ok r = true ∧ v = f r)
  | [], _, _, _, h => Or.inl h
  | p :: ps, a, v, r, h => by
    rw [brs_cons] at h
    rcases brs_at f ok ps _ v r h with h1 | ⟨h1, h2⟩
    · by_cases hp : ok p = true
      · rw [if_pos hp] at h1
        rcases bst_or f p a with e | e
        · rw [e] at h1; exact Or.inl h1
        · rw [e] at h1
          cases h1
          exact Or.inr ⟨List.mem_cons_self, hp, rfl⟩
      · rw [if_neg hp] at h1; exact Or.inl h1
    · exact Or.inr ⟨List.mem_cons_of_mem _ h1, h2⟩
theorem brs_some {α : Type} (f : α → Nat) (ok : α → Bool) : ∀ (l : List α) (a : Option (Nat × α)), (a ≠ none ∨ ∃ p, p ∈ l ∧ ok p = true) → brs f ok l a ≠ none
  | [], a, h => by
    rcases h with h | ⟨p, h, _⟩
    · exact h
    · cases h
  | p :: ps, a, h => by
    rw [brs_cons]
    apply brs_some f ok ps
    by_cases hp : ok p = true
    · rw [if_pos hp]; exact Or.inl (bst_ne f p a)
    · rw [if_neg hp]
      rcases h with h | ⟨q, h1, h2⟩
      · exact Or.inl h
      · rcases List.mem_cons.mp h1 with e | e
        · rw [e] at h2; exact absurd h2 hp
        · exact Or.inr ⟨q, e, h2⟩
theorem perms_nd : ∀ S, S < 64 → ∀ p ∈ perms S, p.Nodup := by decide +kernel
theorem perms_first : ∀ S, S < 64 → ∀ f, f < 6 → S.testBit f = true → ∃ p ∈ perms S, p.getD 0 0 = f := by
  have h : ∀ S, S < 64 → ∀ f, f < 6 → S.testBit f = true → (perms S).any (fun p => decide (p.getD 0 0 = f)) = true := by decide +kernel
  intro S hS f hf hb
  obtain ⟨p, h1, h2⟩ := List.any_eq_true.mp (h S hS f hf hb)
  exact ⟨p, h1, of_decide_eq_true h2⟩
theorem perms_all : ∀ S, S < 64 → ∀ p ∈ perms S, ∀ x, x < 6 → S.testBit x = true → x ∈ p := by decide +kernel
theorem perms_ne : ∀ S, S < 64 → perms S ≠ [] := by decide +kernel
theorem gbest_at {s : AS} (hA : AI s) {c S : Nat} (hc : c < s.1 2) (hS : S < 2 ^ gn s) : gbest s c S = some (gcst s c S, grow s c S) ∧ grow s c S ∈ perms S ∧ okF (firstF s c S (gn s)) (grow s c S) = true ∧ gcst s c S = gcost s c (grow s c S) := by
  have hg6 := gn_le hA
  have hS64 : S < 64 := Nat.lt_of_lt_of_le hS (Nat.pow_le_pow_right (n := 2) (by decide) hg6)
  have hne : gbest s c S ≠ none := by
    apply brs_some
    refine Or.inr ?_
    rcases firstF_at s c S (gn s) hg6 with z | z
    · cases hp : perms S with
      | nil => exact absurd hp (perms_ne S hS64)
      | cons p l => exact ⟨p, List.mem_cons_self, by unfold okF; rw [decide_eq_true z]; rfl⟩
    · obtain ⟨p, h1, h2⟩ := perms_first S hS64 _ (by omega) z.2.1
      exact ⟨p, h1, by unfold okF; rw [decide_eq_true h2, Bool.or_true]⟩
  cases hb : gbest s c S with
  | none => exact absurd hb hne
  | some b =>
    have e1 : gcst s c S = b.1 := by unfold gcst; rw [hb]; rfl
    have e2 : grow s c S = b.2 := by unfold grow; rw [hb]; rfl
    rcases brs_at _ _ _ _ b.1 b.2 hb with h | ⟨h1, h2, h3⟩
    · cases h
    · rw [e1, e2]
      exact ⟨rfl, h1, h2, h3⟩
theorem grow_at {s : AS} (hA : AI s) {c S : Nat} (hc : c < s.1 2) (hS : S < 2 ^ gn s) : (grow s c S).Nodup ∧ (grow s c S).length = (elems S (gn s)).length ∧ (∀ x, x ∈ grow s c S ↔ S.testBit x = true) := by
  have hg6 := gn_le hA
  have hS64 : S < 64 := Nat.lt_of_lt_of_le hS (Nat.pow_le_pow_right (n := 2) (by decide) hg6)
  obtain ⟨-, h1, -⟩ := gbest_at hA hc hS
  have hch := (chain_all S hS64).2.2 _ h1
  refine ⟨perms_nd S hS64 _ h1, by rw [elems_6 hS hg6]; exact hch.1, fun x => ⟨fun hx => (hch.2 x hx).2, fun hx => perms_all S hS64 _ h1 x ?_ hx⟩⟩
  have := bit_lt hS hx
  omega
theorem setO_bit (d : List Nat) (c : Nat) : ∀ n i, (setO d c n).testBit i = (decide (i < n) && decide (d.getD i 0 = c))
  | 0, i => by simp [setO]
  | n + 1, i => by
    have ih := setO_bit d c n i
    have hlt := setO_lt d c n
    unfold setO
    by_cases hd : d.getD n 0 = c
    · rw [if_pos hd, ← or_pow hlt, Nat.testBit_or, ih, Nat.testBit_two_pow]
      by_cases e : i = n
      · subst e; rw [decide_eq_true hd, decide_eq_true (rfl : i = i), Bool.or_true, Bool.and_true, decide_eq_true (Nat.lt_succ_self i)]
      · have e2 : ¬ n = i := fun z => e z.symm
        rw [decide_eq_false e2, Bool.or_false]
        congr 1
        exact decide_eq_decide.mpr (by omega)
    · rw [if_neg hd, Nat.add_zero, ih]
      by_cases e : i = n
      · subst e; rw [decide_eq_false hd, Bool.and_false, Bool.and_false]
      · congr 1
        exact decide_eq_decide.mpr (by omega)
theorem elems_setO (d : List Nat) (c n : Nat) : (elems (setO d c n) n).length = cnt (fun i => decide (d.getD i 0 = c)) n := by
  unfold elems
  rw [filt_len]
  exact cnt_cong (fun k hk => by rw [setO_bit, decide_eq_true hk, Bool.true_and])
def asg : Nat → List (List Nat)
  | 0 => [[]]
  | n + 1 => (List.range 4).flatMap (fun c => (asg n).map (fun d => c :: d))
theorem fm_congr {α β : Type} {f g : α → List β} : ∀ {l : List α}, (∀ a, a ∈ l → f a = g a) → l.flatMap f = l.flatMap g
  | [], _ => rfl
  | a :: l, h => by rw [List.flatMap_cons, List.flatMap_cons, h a List.mem_cons_self, fm_congr (fun b hb => h b (List.mem_cons_of_mem _ hb))]
theorem range_mul (b : Nat) : ∀ a, List.range (a * b) = (List.range a).flatMap (fun c => (List.range b).map (fun r => c * b + r))
  | 0 => by rw [Nat.zero_mul]; rfl
  | a + 1 => by
    rw [Nat.succ_mul, List.range_add, range_mul b a, List.range_succ, List.flatMap_append, List.flatMap_singleton]
theorem dig_cons {n c r : Nat} (hc : c < 4) (hr : r < 4 ^ n) : dig (n + 1) (c * 4 ^ n + r) = c :: dig n r := by
  unfold dig
  rw [List.range_succ_eq_map, List.map_cons, List.map_map]
  congr 1
  · show (c * 4 ^ n + r) / 4 ^ (n + 1 - 1 - 0) % 4 = c
    rw [show n + 1 - 1 - 0 = n by omega, Nat.mul_comm, Nat.mul_add_div (Nat.pow_pos (by decide)), Nat.div_eq_of_lt hr, Nat.add_zero, Nat.mod_eq_of_lt hc]
  · apply List.map_congr_left
    intro i hi
    have hi2 := List.mem_range.mp hi
    show (c * 4 ^ n + r) / 4 ^ (n + 1 - 1 - (i + 1)) % 4 = r / 4 ^ (n - 1 - i) % 4
    have e : 4 ^ n = 4 ^ (n - 1 - i) * (4 ^ i * 4) := by rw [← Nat.pow_succ, ← Nat.pow_add]; congr 1; omega
    rw [show n + 1 - 1 - (i + 1) = n - 1 - i by omega, e, show c * (4 ^ (n - 1 - i) * (4 ^ i * 4)) = 4 ^ (n - 1 - i) * (c * 4 ^ i * 4) by rw [Nat.mul_left_comm, Nat.mul_assoc], Nat.mul_add_div (Nat.pow_pos (by decide)), Nat.add_comm, Nat.add_mul_mod_self_right]
theorem asg_dig : ∀ n, asg n = (List.range (4 ^ n)).map (dig n)
  | 0 => rfl
  | n + 1 => by
    unfold asg
    rw [asg_dig n, Nat.pow_succ, Nat.mul_comm, range_mul, List.map_flatMap]
    refine fm_congr (fun c hc => ?_)
    rw [List.map_map, List.map_map]
    apply List.map_congr_left
    intro r hr
    exact (dig_cons (List.mem_range.mp hc) (List.mem_range.mp hr)).symm
theorem mem_asg : ∀ (n : Nat) (d : List Nat), d.length = n → (∀ x, x ∈ d → x < 4) → d ∈ asg n
  | 0, d, h, _ => by
    rw [List.length_eq_zero_iff.mp h]
    exact List.mem_cons_self
  | n + 1, d, h, hx => by
    match d, h, hx with
    | c :: d, h, hx =>
      unfold asg
      rw [List.mem_flatMap]
      exact ⟨c, List.mem_range.mpr (hx c List.mem_cons_self), List.mem_map.mpr ⟨d, mem_asg n d (Nat.succ.inj h) (fun x q => hx x (List.mem_cons_of_mem _ q)), rfl⟩⟩
theorem asg_mem : ∀ (n : Nat) (d : List Nat), d ∈ asg n → d.length = n ∧ ∀ x, x ∈ d → x < 4
  | 0, d, h => by
    have : d = [] := by simpa [asg] using h
    subst this
    exact ⟨rfl, fun x q => by cases q⟩
  | n + 1, d, h => by
    unfold asg at h
    rw [List.mem_flatMap] at h
    obtain ⟨c, hc, h⟩ := h
    obtain ⟨e, he, rfl⟩ := List.mem_map.mp h
    obtain ⟨h1, h2⟩ := asg_mem n e he
    refine ⟨by rw [List.length_cons, h1], fun x q => ?_⟩
    rcases List.mem_cons.mp q with z | z
    · rw [z]; exact List.mem_range.mp hc
    · exact h2 x z
theorem gways_asg {s : AS} (hA : AI s) : gways s = asg (gn s) := (asg_dig _).symm
theorem carsZ_bit {s : AS} {k z c : Nat} : ∀ n, (carsZ s k z n).testBit c = true → c < n
  | n, h => bit_lt (carsZ_lt s k z n) h
theorem carsN_bit {s : AS} {k c : Nat} (h : (carsN s k).testBit c = true) : c < s.1 2 := by
  unfold carsN at h
  split at h
  · exact carsZ_bit _ h
  · exact carsZ_bit _ h
theorem some_bit : ∀ x, x < 16 → x ≠ 0 → ∃ c, c < 4 ∧ x.testBit c = true := by decide +kernel
theorem ggood_iff {s : AS} {d : List Nat} : ∀ n, ggoodF s d n = true ↔ ∀ i, i < n → (carsN s (gk s i)).testBit (d.getD i 0) = true
  | 0 => ⟨fun _ i hi => absurd hi (Nat.not_lt_zero _), fun _ => rfl⟩
  | n + 1 => by
    unfold ggoodF
    rw [Bool.and_eq_true, ggood_iff n]
    constructor
    · rintro ⟨h1, h2⟩ i hi
      by_cases e : i = n
      · rw [e]; exact h2
      · exact h1 i (by omega)
    · exact fun h => ⟨fun i hi => h i (by omega), h n (by omega)⟩
theorem some_list (P : Nat → Nat → Prop) : ∀ n, (∀ i, i < n → ∃ c, c < 4 ∧ P i c) → ∃ d : List Nat, d.length = n ∧ (∀ x, x ∈ d → x < 4) ∧ ∀ i, i < n → P i (d.getD i 0)
  | 0, _ => ⟨[], rfl, ⟨fun _ q => absurd q List.not_mem_nil, fun i hi => absurd hi (Nat.not_lt_zero _)⟩⟩
  | n + 1, h => by
    obtain ⟨d, h1, h2, h3⟩ := some_list P n (fun i hi => h i (by omega))
    obtain ⟨c, hc, hp⟩ := h n (by omega)
    refine ⟨d ++ [c], by simp [h1], fun x q => ?_, fun i hi => ?_⟩
    · rcases List.mem_append.mp q with z | z
      · exact h2 x z
      · rw [List.mem_singleton.mp z]; exact hc
    · rw [getD_app]
      by_cases e : i = n
      · rw [if_neg (by omega), if_pos (by omega), e]; exact hp
      · rw [if_pos (by omega)]; exact h3 i (by omega)
theorem gway_at {s : AS} (hA : AI s) : gway s = some (gsum s, gd s) ∧ gd s ∈ asg (gn s) ∧ ggood s (gd s) = true ∧ gsum s = gtot s (gd s) := by
  have hne : gway s ≠ none := by
    apply brs_some
    refine Or.inr ?_
    obtain ⟨d, h1, h2, h3⟩ := some_list (fun i c => (carsN s (gk s i)).testBit c = true) (gn s) (fun i hi => some_bit _ (carsN_lt hA _) (gk_at hi).2.2)
    exact ⟨d, by rw [gways_asg hA]; exact mem_asg _ d h1 h2, (ggood_iff _).mpr h3⟩
  cases hb : gway s with
  | none => exact absurd hb hne
  | some b =>
    have e1 : gsum s = b.1 := by unfold gsum; rw [hb]; rfl
    have e2 : gd s = b.2 := by unfold gd; rw [hb]; rfl
    rcases brs_at _ _ _ _ b.1 b.2 hb with h | ⟨h1, h2, h3⟩
    · cases h
    · rw [e1, e2]
      rw [gways_asg hA] at h1
      exact ⟨rfl, h1, h2, h3⟩
theorem gd_at {s : AS} (hA : AI s) {i : Nat} (hi : i < gn s) : (gd s).getD i 0 < s.1 2 ∧ (carsN s (gk s i)).testBit ((gd s).getD i 0) = true := by
  have h := (ggood_iff _).mp (gway_at hA).2.2.1 i hi
  exact ⟨carsN_bit h, h⟩
theorem setO_gn (s : AS) (d : List Nat) (c : Nat) : setO d c (gn s) < 2 ^ gn s := setO_lt d c _
theorem gRow_mem {s : AS} (hA : AI s) {c x : Nat} (hc : c < s.1 2) : x ∈ gRow s c ↔ x < gn s ∧ (gd s).getD x 0 = c := by
  unfold gRow
  rw [if_pos hc, (grow_at hA hc (setO_gn s (gd s) c)).2.2 x, setO_bit, Bool.and_eq_true, decide_eq_true_iff, decide_eq_true_iff]
theorem gRow_len {s : AS} (hA : AI s) {c : Nat} (hc : c < s.1 2) : (gRow s c).length = cnt (fun i => decide ((gd s).getD i 0 = c)) (gn s) := by
  unfold gRow
  rw [if_pos hc, (grow_at hA hc (setO_gn s (gd s) c)).2.1, elems_setO]
theorem gRow_nd {s : AS} (hA : AI s) {c : Nat} (hc : c < s.1 2) : (gRow s c).Nodup := by
  unfold gRow
  rw [if_pos hc]
  exact (grow_at hA hc (setO_gn s (gd s) c)).1
theorem gRow_len6 {s : AS} (hA : AI s) (c : Nat) : (gRow s c).length ≤ 6 := by
  by_cases hc : c < s.1 2
  · rw [gRow_len hA hc]
    exact Nat.le_trans (cnt_le _ _) (gn_le hA)
  · unfold gRow
    rw [if_neg hc]
    exact Nat.zero_le _
theorem gtot_lt {s : AS} (hA : AI s) (d : List Nat) : ∀ c, c ≤ s.1 2 → gtotF s d c ≤ c * 2 ^ 40
  | 0, _ => Nat.zero_le _
  | c + 1, h => by
    have ih := gtot_lt hA d c (by omega)
    have hb := gbest_at hA (c := c) (by omega) (setO_gn s d c)
    have hg := grow_at hA (c := c) (by omega) (setO_gn s d c)
    have h1 : gcst s c (setO d c (gn s)) < 2 ^ 40 := by
      rw [hb.2.2.2]
      refine gcost_lt hA (by omega) ?_ (fun x hx => bit_lt (setO_gn s d c) ((hg.2.2 x).mp hx))
      rw [hg.2.1]
      exact Nat.le_trans (elems_len _ _) (gn_le hA)
    unfold gtotF
    omega
