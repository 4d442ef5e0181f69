/-! 40: the state's bounds are kept -/
theorem if_n1 {p : Prop} [Decidable p] {α : Type} {a b : Nat × α} {q : (Nat × α) → Prop} (h1 : p → q a) (h2 : ¬ p → q b) : q (if p then a else b) := by
  by_cases h : p
  · rw [if_pos h]; exact h1 h
  · rw [if_neg h]; exact h2 h
theorem AI_L {s : AS} {g : Nat → Nat → Nat} (h : AI s) (hg : ∀ c, c < s.1 2 → (1 ≤ g c 0 ∧ g c 0 ≤ 5) ∧ g c 1 < s.1 0 ∧ g c 2 ≤ 100000 ∧ (g c 3 ≤ g c 4 ∧ g c 4 < s.1 0) ∧ g c 5 ≤ 1) : AI (s.1, g, s.2.2) :=
  ⟨h.1, h.2.1, h.2.2.1, h.2.2.2.1, hg, h.2.2.2.2.2⟩
theorem up2_at (g : Nat → Nat → Nat) (i q v : Nat) : up2 g i q v i q = v := if_pos ⟨rfl, rfl⟩
theorem up2_ne {g : Nat → Nat → Nat} {i q v j r : Nat} (h : ¬ (j = i ∧ r = q)) : up2 g i q v j r = g j r := if_neg h
theorem AI_Free {s : AS} (h : AI s) (c f z : Int32) : AI (sFree s c f z).2.2 := by
  unfold sFree
  by_cases q : (inB c (s.1 2) && inB f (s.1 0) && inR z 0 100000) = false
  · rw [if_pos q]; exact h
  · rw [if_neg q]
    rw [Bool.not_eq_false, Bool.and_eq_true, Bool.and_eq_true] at q
    have h0 := h.1
    have hf := inB_at (by omega) q.1.2
    have hz := inR_at (by decide) (by decide) q.2
    refine AI_L h (fun d hd => ?_)
    have h9 := h.2.2.2.2.1 d hd
    by_cases e : d = iN c
    · subst e
      refine ⟨by rw [up2_ne (by omega), up2_ne (by omega)]; exact h9.1, by rw [up2_ne (by omega), up2_at]; exact hf.1, by rw [up2_at]; exact hz.2.1, by rw [up2_ne (by omega), up2_ne (by omega), up2_ne (by omega), up2_ne (by omega)]; exact h9.2.2.2.1, by rw [up2_ne (by omega), up2_ne (by omega)]; exact h9.2.2.2.2⟩
    · have hn : ∀ r, up2 (up2 s.2.1 (iN c) 1 (iN f)) (iN c) 2 (iN z) d r = s.2.1 d r := fun r => by rw [up2_ne (fun y => e y.1), up2_ne (fun y => e y.1)]
      simp only [hn]
      exact h9
theorem AI_Zone {s : AS} (h : AI s) (c a b : Int32) : AI (sZone s c a b).2.2 := by
  unfold sZone
  by_cases q : (inB c (s.1 2) && inB a (s.1 0) && inB b (s.1 0) && decide (a ≤ b)) = false
  · rw [if_pos q]; exact h
  · rw [if_neg q]
    rw [Bool.not_eq_false, Bool.and_eq_true, Bool.and_eq_true, Bool.and_eq_true] at q
    have h0 := h.1
    have ha := inB_at (by omega) q.1.1.2
    have hb := inB_at (by omega) q.1.2
    have hab : iN a ≤ iN b := by
      have := of_decide_eq_true q.2
      rw [ha.2, hb.2] at this
      exact (nI_leI (by omega) (by omega)).mp this
    refine AI_L h (fun d hd => ?_)
    have h9 := h.2.2.2.2.1 d hd
    by_cases e : d = iN c
    · subst e
      refine ⟨by rw [up2_ne (by omega), up2_ne (by omega)]; exact h9.1, by rw [up2_ne (by omega), up2_ne (by omega)]; exact h9.2.1, by rw [up2_ne (by omega), up2_ne (by omega)]; exact h9.2.2.1, by rw [up2_ne (by omega), up2_at, up2_at]; exact ⟨hab, hb.1⟩, by rw [up2_ne (by omega), up2_ne (by omega)]; exact h9.2.2.2.2⟩
    · have hn : ∀ r, up2 (up2 s.2.1 (iN c) 3 (iN a)) (iN c) 4 (iN b) d r = s.2.1 d r := fun r => by rw [up2_ne (fun y => e y.1), up2_ne (fun y => e y.1)]
      simp only [hn]
      exact h9
theorem AI_Sleep {s : AS} (h : AI s) (c : Int32) (on : Bool) : AI (sSleep s c on).2.2 := by
  unfold sSleep
  by_cases q : inB c (s.1 2) = false
  · rw [if_pos q]; exact h
  · rw [if_neg q]
    refine AI_L h (fun d hd => ?_)
    have h9 := h.2.2.2.2.1 d hd
    by_cases e : d = iN c
    · subst e
      refine ⟨by rw [up2_ne (by omega)]; exact h9.1, by rw [up2_ne (by omega)]; exact h9.2.1, by rw [up2_ne (by omega)]; exact h9.2.2.1, by rw [up2_ne (by omega), up2_ne (by omega)]; exact h9.2.2.2.1, by rw [up2_at]; split <;> omega⟩
    · have hn : ∀ r, up2 s.2.1 (iN c) 5 (if on = true then 1 else 0) d r = s.2.1 d r := fun r => up2_ne (fun y => e y.1)
      simp only [hn]
      exact h9
theorem AI_Car {s : AS} (h : AI s) (f p : Int32) : AI (sCar s f p).2.2 := by
  unfold sCar
  by_cases q : (inB f (s.1 0) && inR p 1 5) = false
  · rw [if_pos q]; exact h
  · rw [if_neg q]
    by_cases q4 : s.1 2 = 4
    · rw [if_pos q4]; exact h
    · rw [if_neg q4]
      rw [Bool.not_eq_false, Bool.and_eq_true] at q
      have h0 := h.1
      have ht := h.2.1
      have hn := h.2.2.1
      have hf := inB_at (by omega) q.1
      have hp := inR_at (by decide) (by decide) q.2
      refine ⟨h0, ht, by show s.1 2 + 1 ≤ 4; omega, h.2.2.2.1, fun d hd => ?_, fun k hk => ?_, h.2.2.2.2.2.2.1, h.2.2.2.2.2.2.2⟩
      · have hd2 : d < s.1 2 + 1 := hd
        by_cases e : d = s.1 2
        · subst e
          show (1 ≤ (if s.1 2 = s.1 2 then newCar s f p else s.2.1 (s.1 2)) 0 ∧ (if s.1 2 = s.1 2 then newCar s f p else s.2.1 (s.1 2)) 0 ≤ 5) ∧ (if s.1 2 = s.1 2 then newCar s f p else s.2.1 (s.1 2)) 1 < s.1 0 ∧ (if s.1 2 = s.1 2 then newCar s f p else s.2.1 (s.1 2)) 2 ≤ 100000 ∧ ((if s.1 2 = s.1 2 then newCar s f p else s.2.1 (s.1 2)) 3 ≤ (if s.1 2 = s.1 2 then newCar s f p else s.2.1 (s.1 2)) 4 ∧ (if s.1 2 = s.1 2 then newCar s f p else s.2.1 (s.1 2)) 4 < s.1 0) ∧ (if s.1 2 = s.1 2 then newCar s f p else s.2.1 (s.1 2)) 5 ≤ 1
          simp only [if_pos]
          exact ⟨⟨hp.1, hp.2.1⟩, hf.1, ht, ⟨Nat.zero_le _, by show s.1 0 - 1 < s.1 0; omega⟩, Nat.zero_le _⟩
        · have h9 := h.2.2.2.2.1 d (by omega)
          simp only [if_neg e]
          exact h9
      · have h9 := h.2.2.2.2.2.1 k hk
        refine ⟨h9.1, h9.2.1, h9.2.2.1, h9.2.2.2.1, h9.2.2.2.2.1, h9.2.2.2.2.2.1, ?_⟩
        show s.2.2 k 5 = 4 ∨ s.2.2 k 5 < s.1 2 + 1
        have := h9.2.2.2.2.2.2
        omega
theorem AI_Pass {s : AS} (h : AI s) (z : Int32) : AI (sPass s z).2.2 := by
  unfold sPass
  by_cases q : inR z 1 1000 = false
  · rw [if_pos q]; exact h
  · rw [if_neg q]
    by_cases q2 : 100000 < s.1 1 + iN z
    · rw [if_pos q2]; exact h
    · rw [if_neg q2]
      refine ⟨h.1, by show s.1 1 + iN z ≤ 100000; omega, h.2.2.1, h.2.2.2.1, h.2.2.2.2.1, fun k hk => ?_, h.2.2.2.2.2.2.1, h.2.2.2.2.2.2.2⟩
      have h9 := h.2.2.2.2.2.1 k hk
      exact ⟨h9.1, h9.2.1, by show s.2.2 k 2 ≤ s.1 1 + iN z; have := h9.2.2.1; omega, h9.2.2.2⟩
theorem AI_Call {s : AS} (h : AI s) (f t : Int32) : AI (sCall s f t).2.2 := by
  unfold sCall
  by_cases q : (inB f (s.1 0) && inB t (s.1 0) && !decide (f = t)) = false
  · rw [if_pos q]; exact h
  · rw [if_neg q]
    by_cases q2 : nOp s = 6 ∨ s.1 3 = 400
    · rw [if_pos q2]; exact h
    · rw [if_neg q2]
      rw [Bool.not_eq_false, Bool.and_eq_true, Bool.and_eq_true] at q
      have h0 := h.1
      have h6 := h.2.2.2.2.2.2.1
      have h4 := h.2.2.2.1
      have hf := inB_at (by omega) q.1.1
      have ht := inB_at (by omega) q.1.2
      obtain ⟨c1, c2⟩ := call_L (s := s) (f := f) (t := t)
      refine ⟨h0, h.2.1, h.2.2.1, by show s.1 3 + 1 ≤ 400; omega, h.2.2.2.2.1, fun k hk => ?_, by rw [call_n]; omega, fun a b ha hb oa ob e e4 => ?_⟩
      · have hk2 : k < s.1 3 + 1 := hk
        by_cases e : k = s.1 3
        · simp only [e, if_pos]
          exact ⟨hf.1, ht.1, Nat.le_refl _, Nat.le_refl _, Nat.zero_le _, Nat.le_refl _, Or.inl rfl⟩
        · simp only [if_neg e]
          exact h.2.2.2.2.2.1 k (by omega)
      · have ha2 : a < s.1 3 + 1 := ha
        have hb2 : b < s.1 3 + 1 := hb
        by_cases ea : a = s.1 3
        · exact absurd (by show (if a = s.1 3 then newCall s f t else s.2.2 a) 5 = 4; rw [if_pos ea]; rfl) e4
        · by_cases eb : b = s.1 3
          · have e9 : (if b = s.1 3 then newCall s f t else s.2.2 b) 5 = 4 := by rw [if_pos eb]; rfl
            exact absurd (e.trans e9) e4
          · have e9 : (if a = s.1 3 then newCall s f t else s.2.2 a) 5 = (if b = s.1 3 then newCall s f t else s.2.2 b) 5 := e
            have e8 : (if a = s.1 3 then newCall s f t else s.2.2 a) 5 ≠ 4 := e4
            rw [if_neg ea, if_neg eb] at e9
            rw [if_neg ea] at e8
            exact h.2.2.2.2.2.2.2 a b (by omega) (by omega) (by rw [← c1 a (by omega)]; exact oa) (by rw [← c1 b (by omega)]; exact ob) e9 e8
theorem AI_R {s : AS} {g : Nat → Nat → Nat} (h : AI s) (hg : ∀ k, k < s.1 3 → g k 0 < s.1 0 ∧ g k 1 < s.1 0 ∧ g k 2 ≤ s.1 1 ∧ g k 3 ≤ 1 ∧ g k 4 ≤ 1 ∧ g k 5 ≤ 4 ∧ (g k 5 = 4 ∨ g k 5 < s.1 2)) (h3 : ∀ k, g k 3 = 1 → s.2.2 k 3 = 1) (hu : ∀ a b, a < s.1 3 → b < s.1 3 → g a 3 = 1 → g b 3 = 1 → g a 5 = g b 5 → g a 5 ≠ 4 → a = b) : AI (s.1, s.2.1, g) := by
  refine ⟨h.1, h.2.1, h.2.2.1, h.2.2.2.1, h.2.2.2.2.1, hg, Nat.le_trans (cnt_mono (fun k hk => ?_) _) h.2.2.2.2.2.2.1, fun a b ha hb oa ob => hu a b ha hb (of_decide_eq_true oa) (of_decide_eq_true ob)⟩
  exact decide_eq_true (h3 k (of_decide_eq_true hk))
theorem AI_Urgent {s : AS} (h : AI s) (y : Int32) (on : Bool) : AI (sUrgent s y on).2.2 := by
  unfold sUrgent
  by_cases q : opB s y = false
  · rw [if_pos q]; exact h
  · rw [if_neg q]
    have n3 : ∀ k, up2 s.2.2 (iN y) 4 (if on = true then 1 else 0) k 3 = s.2.2 k 3 := fun k => up2_ne (by omega)
    have n5 : ∀ k, up2 s.2.2 (iN y) 4 (if on = true then 1 else 0) k 5 = s.2.2 k 5 := fun k => up2_ne (by omega)
    refine AI_R h (fun k hk => ?_) (fun k hk => by rw [← n3]; exact hk) (fun a b ha hb oa ob e e4 => ?_)
    · have h9 := h.2.2.2.2.2.1 k hk
      refine ⟨by rw [up2_ne (by omega)]; exact h9.1, by rw [up2_ne (by omega)]; exact h9.2.1, by rw [up2_ne (by omega)]; exact h9.2.2.1, by rw [n3]; exact h9.2.2.2.1, ?_, by rw [n5]; exact h9.2.2.2.2.2.1, by rw [n5]; exact h9.2.2.2.2.2.2⟩
      by_cases e : k = iN y
      · subst e; rw [up2_at]; split <;> omega
      · rw [up2_ne (fun z => e z.1)]; exact h9.2.2.2.2.1
    · rw [n3] at oa ob
      rw [n5, n5] at e
      rw [n5] at e4
      exact h.2.2.2.2.2.2.2 a b ha hb (decide_eq_true oa) (decide_eq_true ob) e e4
theorem AI_Done {s : AS} (h : AI s) (y : Int32) : AI (sDone s y).2.2 := by
  unfold sDone
  by_cases q : opB s y = false
  · rw [if_pos q]; exact h
  · rw [if_neg q]
    have n5 : ∀ k, up2 s.2.2 (iN y) 3 0 k 5 = s.2.2 k 5 := fun k => up2_ne (by omega)
    have n3 : ∀ k, up2 s.2.2 (iN y) 3 0 k 3 = 1 → s.2.2 k 3 = 1 := fun k hk => by
      by_cases e : k = iN y
      · subst e; rw [up2_at] at hk; cases hk
      · rw [up2_ne (fun z => e z.1)] at hk; exact hk
    refine AI_R h (fun k hk => ?_) n3 (fun a b ha hb oa ob e e4 => ?_)
    · have h9 := h.2.2.2.2.2.1 k hk
      refine ⟨by rw [up2_ne (by omega)]; exact h9.1, by rw [up2_ne (by omega)]; exact h9.2.1, by rw [up2_ne (by omega)]; exact h9.2.2.1, ?_, by rw [up2_ne (by omega)]; exact h9.2.2.2.2.1, by rw [n5]; exact h9.2.2.2.2.2.1, by rw [n5]; exact h9.2.2.2.2.2.2⟩
      by_cases e : k = iN y
      · subst e; rw [up2_at]; omega
      · rw [up2_ne (fun z => e z.1)]; exact h9.2.2.2.1
    · rw [n5, n5] at e
      rw [n5] at e4
      exact h.2.2.2.2.2.2.2 a b ha hb (decide_eq_true (n3 a oa)) (decide_eq_true (n3 b ob)) e e4
theorem othB_none {s : AS} {q c : Nat} : ∀ n, othB s q c n = false → ∀ j, j < n → j ≠ q → isOp s j = true → s.2.2 j 5 ≠ c
  | 0, _, j, hj, _, _ => absurd hj (Nat.not_lt_zero _)
  | n + 1, h, j, hj, h1, h2 => by
    unfold othB at h
    rw [Bool.or_eq_false_iff] at h
    by_cases e : j = n
    · subst e
      intro z
      rw [decide_eq_true h1, h2, decide_eq_true z] at h
      cases h.2
    · exact othB_none n h.1 j (by omega) h1 h2
theorem AI_Be {s : AS} (h : AI s) {k0 v : Nat} (hv : v = 4 ∨ v < s.1 2) (ho : v ≠ 4 → ∀ j, j < s.1 3 → j ≠ k0 → isOp s j = true → s.2.2 j 5 ≠ v) : AI (s.1, s.2.1, up2 s.2.2 k0 5 v) := by
  have hc := h.2.2.1
  have n3 : ∀ k, up2 s.2.2 k0 5 v k 3 = s.2.2 k 3 := fun k => up2_ne (by omega)
  refine AI_R h (fun k hk => ?_) (fun k hk => by rw [← n3]; exact hk) (fun a b ha hb oa ob e e4 => ?_)
  · have h9 := h.2.2.2.2.2.1 k hk
    refine ⟨by rw [up2_ne (by omega)]; exact h9.1, by rw [up2_ne (by omega)]; exact h9.2.1, by rw [up2_ne (by omega)]; exact h9.2.2.1, by rw [n3]; exact h9.2.2.2.1, by rw [up2_ne (by omega)]; exact h9.2.2.2.2.1, ?_, ?_⟩
    · by_cases e : k = k0
      · subst e; rw [up2_at]; omega
      · rw [up2_ne (fun z => e z.1)]; exact h9.2.2.2.2.2.1
    · by_cases e : k = k0
      · subst e; rw [up2_at]; exact hv
      · rw [up2_ne (fun z => e z.1)]; exact h9.2.2.2.2.2.2
  · rw [n3] at oa ob
    by_cases ea : a = k0
    · by_cases eb : b = k0
      · rw [ea, eb]
      · subst ea
        rw [up2_at, up2_ne (fun z => eb z.1)] at e
        rw [up2_at] at e4
        exact absurd e.symm (ho e4 b hb eb (decide_eq_true ob))
    · by_cases eb : b = k0
      · subst eb
        rw [up2_at, up2_ne (fun z => ea z.1)] at e
        rw [up2_ne (fun z => ea z.1)] at e4
        exact absurd e (ho (by rw [← e]; exact e4) a ha ea (decide_eq_true oa))
      · rw [up2_ne (fun z => ea z.1), up2_ne (fun z => eb z.1)] at e
        rw [up2_ne (fun z => ea z.1)] at e4
        exact h.2.2.2.2.2.2.2 a b ha hb (decide_eq_true oa) (decide_eq_true ob) e e4
theorem AI_Begin {s : AS} (h : AI s) (y c : Int32) : AI (sBegin s y c).2.2 := by
  have hn := h.2.2.1
  unfold sBegin
  by_cases q : (opB s y && (decide (c = -1) || inB c (s.1 2))) = false
  · rw [if_pos q]; exact h
  · rw [if_neg q]
    by_cases q1 : c = -1
    · rw [if_pos q1]; exact AI_Be h (Or.inl rfl) (fun z => absurd rfl z)
    · rw [if_neg q1]
      by_cases q2 : (othB s (iN y) (iN c) (s.1 3) || !witB s (iN c) (iN y)) = true
      · rw [if_pos q2]; exact h
      · rw [if_neg q2]
        rw [Bool.not_eq_false, Bool.and_eq_true, decide_eq_false q1, Bool.false_or] at q
        rw [Bool.or_eq_true, not_or, Bool.not_eq_true] at q2
        exact AI_Be h (Or.inr (inB_at (by omega) q.2).1) (fun _ => othB_none _ q2.1)
/-- calls behind the last have no car -/
def RN (s : AS) (r : GR) : Prop := ∀ j, s.1 3 ≤ j → r.1 j 0 = 4
theorem RN_gres (s : AS) : RN s (gres s) := fun j hj => if_neg (fun e => by
  have h9 := List.idxOf_lt_length_iff.mp e
  unfold gL at h9
  rw [List.mem_filter, List.mem_range] at h9
  omega)
theorem RN_up {s s' : AS} {r : GR} (h : RN s r) (hn : s.1 3 ≤ s'.1 3) : RN s' r := fun j hj => h j (by omega)
theorem N_Car (s : AS) (f p : Int32) : s.1 3 ≤ (sCar s f p).2.2.1 3 := by
  unfold sCar
  split
  · exact Nat.le_refl _
  · split <;> exact Nat.le_refl _
theorem N_Call (s : AS) (f p : Int32) : s.1 3 ≤ (sCall s f p).2.2.1 3 := by
  unfold sCall
  split
  · exact Nat.le_refl _
  · split
    · exact Nat.le_refl _
    · exact Nat.le_succ _
theorem N_Free (s : AS) (c f z : Int32) : s.1 3 ≤ (sFree s c f z).2.2.1 3 := by unfold sFree; split <;> exact Nat.le_refl _
theorem N_Zone (s : AS) (c f z : Int32) : s.1 3 ≤ (sZone s c f z).2.2.1 3 := by unfold sZone; split <;> exact Nat.le_refl _
theorem N_Sleep (s : AS) (c : Int32) (on : Bool) : s.1 3 ≤ (sSleep s c on).2.2.1 3 := by unfold sSleep; split <;> exact Nat.le_refl _
theorem N_Urgent (s : AS) (c : Int32) (on : Bool) : s.1 3 ≤ (sUrgent s c on).2.2.1 3 := by unfold sUrgent; split <;> exact Nat.le_refl _
theorem N_Begin (s : AS) (y c : Int32) : s.1 3 ≤ (sBegin s y c).2.2.1 3 := by
  unfold sBegin
  split
  · exact Nat.le_refl _
  · split
    · exact Nat.le_refl _
    · split <;> exact Nat.le_refl _
theorem N_Done (s : AS) (y : Int32) : s.1 3 ≤ (sDone s y).2.2.1 3 := by unfold sDone; split <;> exact Nat.le_refl _
theorem N_Pass (s : AS) (z : Int32) : s.1 3 ≤ (sPass s z).2.2.1 3 := by
  unfold sPass
  split
  · exact Nat.le_refl _
  · split <;> exact Nat.le_refl _
