set_option maxHeartbeats 4000000 in
set_option maxRecDepth 100000 in
theorem ok_m_isIn (l : Launch) (G : Nat → ClassId) (D : va_G) (base : Nat) {h : Hp} {nx : Nat} (v a b : Int32) : MetP l G D base miX5_isIn 0 0 0 [.int v, .int a, .int b] h nx (Kv (.int (b2 (decide (a ≤ v ∧ v ≤ b)))) h nx) := by
  refine MetP_of (by decide +kernel) rfl ?_
  intro k g hr hR hcl hcg hcd hcb hcn hnx
  subst hcl; subst hcg; subst hcd; subst hcb
  show Sf k 0 0 h nx 0 [some (.int v), some (.int a), some (.int b)] []
  refine r_iload_n g dX5_isIn_0 rfl ?_
  refine r_iload_n g dX5_isIn_1 rfl ?_
  refine r_icmp_lt 14 g dX5_isIn_2 (by decide) (fun c2 => ?_) (fun c2 => ?_)
  · skip
    refine r_iconst (v := 0) g dX5_isIn_14 (by decide) ?_
    exact r_zret g hr (Nat.le_refl _) (Nat.le_refl _) dX5_isIn_15 rfl ⟨congrArg (fun z => some (Value.int z)) (b2_no (by simp only [Int32.lt_iff_toInt_lt, Int32.le_iff_toInt_le] at *; omega)), rfl, rfl⟩
  · skip
    refine r_iload_n g dX5_isIn_5 rfl ?_
    refine r_iload_n g dX5_isIn_6 rfl ?_
    refine r_icmp_gt 14 g dX5_isIn_7 (by decide) (fun c7 => ?_) (fun c7 => ?_)
    · skip
      refine r_iconst (v := 0) g dX5_isIn_14 (by decide) ?_
      exact r_zret g hr (Nat.le_refl _) (Nat.le_refl _) dX5_isIn_15 rfl ⟨congrArg (fun z => some (Value.int z)) (b2_no (by simp only [Int32.lt_iff_toInt_lt, Int32.le_iff_toInt_le] at *; omega)), rfl, rfl⟩
    · skip
      refine r_iconst (v := 1) g dX5_isIn_10 (by decide) ?_
      refine r_goto 15 g dX5_isIn_11 (by decide) ?_
      exact r_zret g hr (Nat.le_refl _) (Nat.le_refl _) dX5_isIn_15 rfl ⟨congrArg (fun z => some (Value.int z)) (b2_of (by simp only [Int32.lt_iff_toInt_lt, Int32.le_iff_toInt_le] at *; omega)), rfl, rfl⟩
set_option maxHeartbeats 4000000 in
set_option maxRecDepth 100000 in
theorem ok_m_isFloor (l : Launch) (G : Nat → ClassId) (D : va_G) (base : Nat) {h : Hp} {nx m : Nat} {F : Nat → Int32} {A : Nat → Nat → Int32} {B : Nat → Int64} {n : Nat} (hM : MO h m F A B) (hF : F 1 = nI n) (hn : n < 2 ^ 31) (f : Int32) : MetP l G D base miX5_isFloor 1 0 0 [.ref m, .int f] h nx (Kv (.int (b2 (inB f n))) h nx) := by
  refine MetP_of (by decide +kernel) rfl ?_
  intro k g hr hR hcl hcg hcd hcb hcn hnx
  subst hcl; subst hcg; subst hcd; subst hcb
  have hM := MS.rf hM
  show Sf k 0 0 h nx 0 [some (.ref m), some (.int f)] []
  refine r_iload_n g dX5_isFloor_0 rfl ?_
  refine r_iconst (v := 0) g dX5_isFloor_1 (by decide) ?_
  refine r_aload_n g dX5_isFloor_2 rfl ?_
  refine rm_get g hM fX5_84 rfl dX5_isFloor_3 ?_
  refine r_iconst (v := 1) g dX5_isFloor_6 (by decide) ?_
  refine r_isub g dX5_isFloor_7 ?_
  refine r_pS g kX5_91 (ok_m_isIn _ _ _ _ f 0 ((F 1) - 1)) rfl rfl hnx hR (by decide) (Nat.zero_le _) (Nat.zero_le _) rfl rfl dX5_isFloor_8 ?_
  exact r_zret g hr (Nat.le_refl _) (Nat.le_refl _) dX5_isFloor_11 (b2_nar _) ⟨by rw [hF, inB_sub hn], rfl, rfl⟩
set_option maxHeartbeats 4000000 in
set_option maxRecDepth 100000 in
theorem ok_m_isCar (l : Launch) (G : Nat → ClassId) (D : va_G) (base : Nat) {h : Hp} {nx m : Nat} {F : Nat → Int32} {A : Nat → Nat → Int32} {B : Nat → Int64} {n : Nat} (hM : MO h m F A B) (hF : F 3 = nI n) (hn : n < 2 ^ 31) (c : Int32) : MetP l G D base miX5_isCar 1 0 0 [.ref m, .int c] h nx (Kv (.int (b2 (inB c n))) h nx) := by
  refine MetP_of (by decide +kernel) rfl ?_
  intro k g hr hR hcl hcg hcd hcb hcn hnx
  subst hcl; subst hcg; subst hcd; subst hcb
  have hM := MS.rf hM
  show Sf k 0 0 h nx 0 [some (.ref m), some (.int c)] []
  refine r_iload_n g dX5_isCar_0 rfl ?_
  refine r_iconst (v := 0) g dX5_isCar_1 (by decide) ?_
  refine r_aload_n g dX5_isCar_2 rfl ?_
  refine rm_get g hM fX5_95 rfl dX5_isCar_3 ?_
  refine r_iconst (v := 1) g dX5_isCar_6 (by decide) ?_
  refine r_isub g dX5_isCar_7 ?_
  refine r_pS g kX5_91 (ok_m_isIn _ _ _ _ c 0 ((F 3) - 1)) rfl rfl hnx hR (by decide) (Nat.zero_le _) (Nat.zero_le _) rfl rfl dX5_isCar_8 ?_
  exact r_zret g hr (Nat.le_refl _) (Nat.le_refl _) dX5_isCar_11 (b2_nar _) ⟨by rw [hF, inB_sub hn], rfl, rfl⟩
/-- the reference's state is s -/
def MI (F : Nat → Int32) (A : Nat → Nat → Int32) (s : AS) : Prop := F 1 = nI (s.1 0) ∧ F 2 = nI (s.1 1) ∧ F 3 = nI (s.1 2) ∧ F 10 = nI (s.1 3) ∧ F 17 = nI (nOp s) ∧
  (∀ c, c < s.1 2 → A 4 c = nI (s.2.1 c 0) ∧ A 5 c = nI (s.2.1 c 1) ∧ A 6 c = nI (s.2.1 c 2) ∧ A 7 c = nI (s.2.1 c 3) ∧ A 8 c = nI (s.2.1 c 4) ∧ A 9 c = nI (s.2.1 c 5)) ∧
  (∀ k, k < s.1 3 → A 11 k = nI (s.2.2 k 0) ∧ A 12 k = nI (s.2.2 k 1) ∧ A 13 k = nI (s.2.2 k 2) ∧ A 14 k = nI (s.2.2 k 3) ∧ A 15 k = nI (s.2.2 k 4) ∧ A 16 k = beI (s.2.2 k 5)) ∧
  (∀ k, s.1 3 ≤ k → A 15 k = 0)
def SameG (A A' : Nat → Nat → Int32) : Prop := ∀ q, 18 ≤ q → q ≤ 23 → A' q = A q
/-- behind a call of the reference: its answer, its state -/
def KP (h : Hp) (nx m : Nat) (A : Nat → Nat → Int32) (B : Nat → Int64) (vd : Bool) (r : RS) : Option Value → Hp → Nat → Prop := fun v h' nx' =>
  nx = nx' ∧ (if vd = true then v = none else ∃ x, v = some (.int x) ∧ (r.1 = 0 → x = r.2.1)) ∧ ∃ F' A', MS h h' m F' A' B ∧ MI F' A' r.2.2 ∧ F' 0 = nI r.1 ∧ SameG A A'
theorem MI.F0 {F : Nat → Int32} {A : Nat → Nat → Int32} {s : AS} (h : MI F A s) (v : Int32) : MI (upd F 0 v) A s := h
theorem KP_i {h h' : Hp} {nx m : Nat} {F : Nat → Int32} {A A' : Nat → Nat → Int32} {B : Nat → Int64} {r : RS} {c x : Int32} (hM : MS h h' m F A' B) (hI : MI F A' r.2.2) (hF : F 0 = c) (hc : c = nI r.1) (hx : r.1 = 0 → x = r.2.1) (hG : SameG A A') : KP h nx m A B false r (some (.int x)) h' nx :=
  ⟨rfl, ⟨x, rfl, hx⟩, F, A', hM, hI, hF.trans hc, hG⟩
theorem KP_v {h h' : Hp} {nx m : Nat} {F : Nat → Int32} {A A' : Nat → Nat → Int32} {B : Nat → Int64} {r : RS} {c : Int32} (hM : MS h h' m F A' B) (hI : MI F A' r.2.2) (hF : F 0 = c) (hc : c = nI r.1) (hG : SameG A A') : KP h nx m A B true r none h' nx :=
  ⟨rfl, rfl, F, A', hM, hI, hF.trans hc, hG⟩
theorem SameG.rf {A : Nat → Nat → Int32} : SameG A A := fun _ _ _ => rfl
theorem SameG.up {A A' : Nat → Nat → Int32} {kf : Nat} {f : Nat → Int32} (h : SameG A A') (hk : kf < 18 ∨ 23 < kf) : SameG A (upA A' kf f) := fun q h1 h2 => (upA_ne (by omega)).trans (h q h1 h2)
theorem isOp_lt {s : AS} {k : Nat} (h : isOp s k = true) : s.2.2 k 3 = 1 := of_decide_eq_true h
theorem opB_at {s : AS} (hA : AI s) {x : Int32} (h : opB s x = true) : iN x < s.1 3 ∧ x = nI (iN x) ∧ s.2.2 (iN x) 3 = 1 := by
  unfold opB at h
  rw [Bool.and_eq_true] at h
  have h1 := inB_at (by have := hA.2.2.2.1; omega) h.1
  exact ⟨h1.1, h1.2, isOp_lt h.2⟩

theorem opB_1 {s : AS} {x : Int32} (h : inB x (s.1 3) = true) (h2 : s.2.2 (iN x) 3 = 1) : (1 : Int32) = b2 (opB s x) := by
  unfold opB isOp
  rw [h, decide_eq_true h2]; rfl
theorem opB_0 {s : AS} {x : Int32} (h : inB x (s.1 3) = false ∨ ¬ s.2.2 (iN x) 3 = 1) : (0 : Int32) = b2 (opB s x) := by
  unfold opB isOp
  rcases h with h | h
  · rw [h]; rfl
  · rw [decide_eq_false h, Bool.and_false]; rfl
theorem nI_c {n c : Nat} (h : n < 2 ^ 31) (hc : c < 2 ^ 31) : nI n = nI c ↔ n = c := nI_eq h hc
theorem cnt_cong {p q : Nat → Bool} : ∀ {n : Nat}, (∀ k, k < n → p k = q k) → cnt p n = cnt q n
  | 0, _ => rfl
  | n + 1, h => by unfold cnt; rw [cnt_cong (fun k hk => h k (by omega)), h n (by omega)]
theorem cnt_le (p : Nat → Bool) : ∀ n, cnt p n ≤ n
  | 0 => Nat.le_refl _
  | n + 1 => by have := cnt_le p n; unfold cnt; split <;> omega
theorem dI3 {a b c : Nat} (ha : a < 2 ^ 31) (hb : b < 2 ^ 31) (hc : c < 2 ^ 31) : decide (nI a ≤ nI b ∧ nI b ≤ nI c) = decide (a ≤ b ∧ b ≤ c) :=
  decide_eq_decide.mpr (and_congr (nI_leI ha hb) (nI_leI hb hc))
theorem nz1 {n : Nat} (h : n ≤ 1) (h2 : ¬ nI n = 0) : n = 1 := by
  match n, h with
  | 0, _ => exact absurd rfl h2
  | 1, _ => rfl
theorem eq0 {n : Nat} (h : n < 2 ^ 31) (h2 : nI n = 0) : n = 0 := by
  have := nI_toInt h
  rw [h2] at this
  have e : (0 : Int32).toInt = 0 := rfl
  omega
set_option maxHeartbeats 4000000 in
set_option maxRecDepth 100000 in
theorem ok_m_isOpenCall (l : Launch) (G : Nat → ClassId) (D : va_G) (base : Nat) {h : Hp} {nx m : Nat} {F : Nat → Int32} {A : Nat → Nat → Int32} {B : Nat → Int64} (s : AS) (hA : AI s) (hI : MI F A s) (hM : MO h m F A B) (x : Int32) : MetP l G D base miX5_isOpenCall 1 0 0 [.ref m, .int x] h nx (Kv (.int (b2 (opB s x))) h nx) := by
  refine MetP_of (by decide +kernel) rfl ?_
  intro k g hr hR hcl hcg hcd hcb hcn hnx
  subst hcl; subst hcg; subst hcd; subst hcb
  have hM := MS.rf hM
  obtain ⟨⟨hn1, hn2⟩, ht, hnc, hN, -⟩ := id hA
  show Sf k 0 0 h nx 0 [some (.ref m), some (.int x)] []
  refine r_iload_n g dX5_isOpenCall_0 rfl ?_
  refine r_iconst (v := 0) g dX5_isOpenCall_1 (by decide) ?_
  refine r_aload_n g dX5_isOpenCall_2 rfl ?_
  refine rm_get g hM fX5_98 rfl dX5_isOpenCall_3 ?_
  refine r_topi (y := (nI (s.1 3))) hI.2.2.2.1 ?_
  refine r_iconst (v := 1) g dX5_isOpenCall_6 (by decide) ?_
  refine r_isub g dX5_isOpenCall_7 ?_
  refine r_pS g kX5_91 (ok_m_isIn _ _ _ _ x 0 ((nI (s.1 3)) - 1)) rfl rfl hnx hR (by decide) (Nat.zero_le _) (Nat.zero_le _) rfl rfl dX5_isOpenCall_8 ?_
  refine r_topi (y := (b2 (inB x (s.1 3)))) (by rw [inB_sub (by omega)]) ?_
  refine r_if_eq 27 g dX5_isOpenCall_11 (by decide) (fun c11 => ?_) (fun c11 => ?_)
  · skip
    have q := b2_f c11
    refine r_iconst (v := 0) g dX5_isOpenCall_27 (by decide) ?_
    exact r_zret g hr (Nat.le_refl _) (Nat.le_refl _) dX5_isOpenCall_28 rfl ⟨congrArg (fun z => some (Value.int z)) (by first | exact opB_0 (Or.inl q) | exact opB_0 (Or.inr (fun z => by rw [z] at c20; exact absurd c20 (by decide)))), rfl, rfl⟩
  · skip
    have q := b2_t c11
    obtain ⟨hi, ei⟩ := inB_at (by omega) q
    refine r_aload_n g dX5_isOpenCall_14 rfl ?_
    refine rm_get g hM fX5_38 rfl dX5_isOpenCall_15 ?_
    refine r_iload_n g dX5_isOpenCall_18 rfl ?_
    refine rm_zald 14 (j := iN x) g hM rfl rfl ei (show iN x < 400 by omega) dX5_isOpenCall_19 ?_
    refine r_topi (y := (nI (s.2.2 (iN x) 3))) (hI.2.2.2.2.2.2.1 (iN x) (by omega)).2.2.2.1 ?_
    refine r_if_eq 27 g dX5_isOpenCall_20 (by decide) (fun c20 => ?_) (fun c20 => ?_)
    · skip
      refine r_iconst (v := 0) g dX5_isOpenCall_27 (by decide) ?_
      exact r_zret g hr (Nat.le_refl _) (Nat.le_refl _) dX5_isOpenCall_28 rfl ⟨congrArg (fun z => some (Value.int z)) (by first | exact opB_0 (Or.inl q) | exact opB_0 (Or.inr (fun z => by rw [z] at c20; exact absurd c20 (by decide)))), rfl, rfl⟩
    · skip
      refine r_iconst (v := 1) g dX5_isOpenCall_23 (by decide) ?_
      refine r_goto 28 g dX5_isOpenCall_24 (by decide) ?_
      exact r_zret g hr (Nat.le_refl _) (Nat.le_refl _) dX5_isOpenCall_28 rfl ⟨congrArg (fun z => some (Value.int z)) (opB_1 q (nz1 (hA.2.2.2.2.2.1 _ hi).2.2.2.1 c20)), rfl, rfl⟩
set_option maxHeartbeats 4000000 in
set_option maxRecDepth 100000 in
theorem ok_m_thrown (l : Launch) (G : Nat → ClassId) (D : va_G) (base : Nat) {h : Hp} {nx m : Nat} {F : Nat → Int32} {A : Nat → Nat → Int32} {B : Nat → Int64} (hM : MO h m F A B) : MetP l G D base miX5_thrown 0 0 0 [.ref m] h nx (Kv (.int (F 0)) h nx) := by
  refine MetP_of (by decide +kernel) rfl ?_
  intro k g hr hR hcl hcg hcd hcb hcn hnx
  subst hcl; subst hcg; subst hcd; subst hcb
  have hM := MS.rf hM
  show Sf k 0 0 h nx 0 [some (.ref m)] []
  refine r_aload_n g dX5_thrown_0 rfl ?_
  refine rm_get g hM fX5_88 rfl dX5_thrown_1 ?_
  exact r_iret g hr (Nat.le_refl _) (Nat.le_refl _) dX5_thrown_4 ⟨rfl, rfl, rfl⟩
theorem MI_car {F : Nat → Int32} {A : Nat → Nat → Int32} {s : AS} (hI : MI F A s) (hn : 2 ≤ s.1 0) (q4 : s.1 2 < 4) {f p : Int32} (hf : f = nI (iN f)) (hp : p = nI (iN p)) :
    MI (upd (upd F 0 0) 3 (nI (s.1 2 + 1))) (upA (upA (upA (upA (upA (upA A 4 (upd (A 4) (s.1 2) p)) 5 (upd (A 5) (s.1 2) f)) 6 (upd (A 6) (s.1 2) (nI (s.1 1)))) 7 (upd (A 7) (s.1 2) 0)) 8 (upd (A 8) (s.1 2) (nI (s.1 0) - 1))) 9 (upd (A 9) (s.1 2) 0)) (up1 s.1 2 (s.1 2 + 1), fun c => if c = s.1 2 then newCar s f p else s.2.1 c, s.2.2) := by
  obtain ⟨h1, h2, h3, h4, h5, h6, h7, h8⟩ := hI
  refine ⟨h1, h2, rfl, h4, h5, fun c hc => ?_, h7, h8⟩
  have hc2 : c < s.1 2 + 1 := hc
  by_cases e : c = s.1 2
  · subst e
    refine ⟨?_, ?_, ?_, ?_, ?_, ?_⟩ <;> simp [upA, upd, newCar, ← hp, ← hf]
    · rfl
    · exact pk_sub (a := s.1 0) (b := 1) (by omega)
    · rfl
  · have h9 := h6 c (by omega)
    simp only [if_neg e]
    refine ⟨?_, ?_, ?_, ?_, ?_, ?_⟩
    · exact (pk_un e).trans h9.1
    · exact (pk_un e).trans h9.2.1
    · exact (pk_un e).trans h9.2.2.1
    · exact (pk_un e).trans h9.2.2.2.1
    · exact (pk_un e).trans h9.2.2.2.2.1
    · exact (pk_un e).trans h9.2.2.2.2.2
set_option maxHeartbeats 4000000 in
set_option maxRecDepth 100000 in
theorem ok_m_car (l : Launch) (G : Nat → ClassId) (D : va_G) (base : Nat) {h : Hp} {nx m : Nat} {F : Nat → Int32} {A : Nat → Nat → Int32} {B : Nat → Int64} (s : AS) (hA : AI s) (hI : MI F A s) (hM : MO h m F A B) (hbm : base ≤ m) (f p : Int32) : MetP l G D base miX5_car 2 0 0 [.ref m, .int f, .int p] h nx (KP h nx m A B false (sCar s f p)) := by
  refine MetP_of (by decide +kernel) rfl ?_
  intro k g hr hR hcl hcg hcd hcb hcn hnx
  subst hcl; subst hcg; subst hcd; subst hcb
  have hM := MS.rf hM
  obtain ⟨⟨hn1, hn2⟩, ht, hnc, hN, -⟩ := id hA
  show Sf k 0 0 h nx 0 [some (.ref m), some (.int f), some (.int p)] []
  refine r_aload_n g dX5_car_0 rfl ?_
  refine r_aload_n g dX5_car_1 rfl ?_
  refine r_iload_n g dX5_car_2 rfl ?_
  refine r_pV g kX5_101 (ok_m_isFloor _ _ _ _ hM.1 hI.1 (by omega) f) hM.1.1 rfl rfl rfl hnx hR (by decide) (Nat.zero_le _) (Nat.zero_le _) rfl rfl dX5_car_3 ?_
  refine r_if_eq 18 g dX5_car_6 (by decide) (fun c6 => ?_) (fun c6 => ?_)
  · skip
    have q := b2_f c6
    refine r_iconst (v := 1) g dX5_car_18 (by decide) ?_
    refine r_goto 35 g dX5_car_19 (by decide) ?_
    refine rm_put (F' := upd F 0 1) g hM hbm fX5_88 (by decide) rfl dX5_car_35 ?_
    intro h_2 hM
    refine r_aload_n g dX5_car_38 rfl ?_
    refine rm_get g hM fX5_88 rfl dX5_car_39 ?_
    refine r_topi (y := 1) rfl ?_
    refine r_if_le 47 g dX5_car_42 (by decide) (fun c42 => absurd c42 (by decide)) (fun c42 => ?_)
    refine r_iconst (v := 0) g dX5_car_45 (by decide) ?_
    try have q2r : inR p 1 5 = _ := q2
    have hs : sCar s f p = (1, 0, s) := by unfold sCar; rw [if_pos (by first | (rw [q]; rfl) | (rw [q, q2r]; rfl))]
    exact r_iret g hr (Nat.le_refl _) (Nat.le_refl _) dX5_car_46 (KP_i (c := 1) hM (by rw [hs]; exact hI) rfl (by rw [hs]; rfl) (fun z => by rw [hs] at z; cases z) SameG.rf)
  · skip
    have q := b2_t c6
    refine r_iload_n g dX5_car_9 rfl ?_
    refine r_iconst (v := 1) g dX5_car_10 (by decide) ?_
    refine r_iconst (v := 5) g dX5_car_11 (by decide) ?_
    refine r_pS g kX5_91 (ok_m_isIn _ _ _ _ p 1 5) rfl rfl hnx hR (by decide) (Nat.zero_le _) (Nat.zero_le _) rfl rfl dX5_car_12 ?_
    refine r_if_ne 22 g dX5_car_15 (by decide) (fun c15 => ?_) (fun c15 => ?_)
    · skip
      have q2 := b2_t c15
      refine r_aload_n g dX5_car_22 rfl ?_
      refine rm_get g hM fX5_95 rfl dX5_car_23 ?_
      refine r_topi (y := (nI (s.1 2))) hI.2.2.1 ?_
      refine r_iconst (v := 4) g dX5_car_26 (by decide) ?_
      refine r_icmp_ne 34 g dX5_car_27 (by decide) (fun c27 => ?_) (fun c27 => ?_)
      · skip
        have q3 : ¬ s.1 2 = 4 := fun z => c27 (by rw [z]; rfl)
        have q4 : s.1 2 < 4 := by omega
        refine r_iconst (v := 0) g dX5_car_34 (by decide) ?_
        refine rm_put (F' := upd F 0 0) g hM hbm fX5_88 (by decide) rfl dX5_car_35 ?_
        intro h_4 hM
        refine r_aload_n g dX5_car_38 rfl ?_
        refine rm_get g hM fX5_88 rfl dX5_car_39 ?_
        refine r_topi (y := 0) rfl ?_
        refine r_if_le 47 g dX5_car_42 (by decide) (fun c42 => ?_) (fun c42 => absurd c42 (by decide))
        refine r_aload_n g dX5_car_47 rfl ?_
        refine rm_get g hM fX5_7 rfl dX5_car_48 ?_
        refine r_aload_n g dX5_car_51 rfl ?_
        refine rm_get g hM fX5_95 rfl dX5_car_52 ?_
        refine r_topi (y := (nI (s.1 2))) hI.2.2.1 ?_
        refine r_iload_n g dX5_car_55 rfl ?_
        refine rm_iast 4 (j := s.1 2) g hM hbm rfl (by decide) rfl rfl (show s.1 2 < 4 by omega) dX5_car_56 ?_
        intro h_5 hM
        refine r_aload_n g dX5_car_57 rfl ?_
        refine rm_get g hM fX5_13 rfl dX5_car_58 ?_
        refine r_aload_n g dX5_car_61 rfl ?_
        refine rm_get g hM fX5_95 rfl dX5_car_62 ?_
        refine r_topi (y := (nI (s.1 2))) hI.2.2.1 ?_
        refine r_iload_n g dX5_car_65 rfl ?_
        refine rm_iast 5 (j := s.1 2) g hM hbm rfl (by decide) rfl rfl (show s.1 2 < 4 by omega) dX5_car_66 ?_
        intro h_6 hM
        refine r_aload_n g dX5_car_67 rfl ?_
        refine rm_get g hM fX5_16 rfl dX5_car_68 ?_
        refine r_aload_n g dX5_car_71 rfl ?_
        refine rm_get g hM fX5_95 rfl dX5_car_72 ?_
        refine r_topi (y := (nI (s.1 2))) hI.2.2.1 ?_
        refine r_aload_n g dX5_car_75 rfl ?_
        refine rm_get g hM fX5_105 rfl dX5_car_76 ?_
        refine r_topi (y := (nI (s.1 1))) hI.2.1 ?_
        refine rm_iast 6 (j := s.1 2) g hM hbm rfl (by decide) rfl rfl (show s.1 2 < 4 by omega) dX5_car_79 ?_
        intro h_7 hM
        refine r_aload_n g dX5_car_80 rfl ?_
        refine rm_get g hM fX5_19 rfl dX5_car_81 ?_
        refine r_aload_n g dX5_car_84 rfl ?_
        refine rm_get g hM fX5_95 rfl dX5_car_85 ?_
        refine r_topi (y := (nI (s.1 2))) hI.2.2.1 ?_
        refine r_iconst (v := 0) g dX5_car_88 (by decide) ?_
        refine rm_iast 7 (j := s.1 2) g hM hbm rfl (by decide) rfl rfl (show s.1 2 < 4 by omega) dX5_car_89 ?_
        intro h_8 hM
        refine r_aload_n g dX5_car_90 rfl ?_
        refine rm_get g hM fX5_22 rfl dX5_car_91 ?_
        refine r_aload_n g dX5_car_94 rfl ?_
        refine rm_get g hM fX5_95 rfl dX5_car_95 ?_
        refine r_topi (y := (nI (s.1 2))) hI.2.2.1 ?_
        refine r_aload_n g dX5_car_98 rfl ?_
        refine rm_get g hM fX5_84 rfl dX5_car_99 ?_
        refine r_topi (y := (nI (s.1 0))) hI.1 ?_
        refine r_iconst (v := 1) g dX5_car_102 (by decide) ?_
        refine r_isub g dX5_car_103 ?_
        refine rm_iast 8 (j := s.1 2) g hM hbm rfl (by decide) rfl rfl (show s.1 2 < 4 by omega) dX5_car_104 ?_
        intro h_9 hM
        refine r_aload_n g dX5_car_105 rfl ?_
        refine rm_get g hM fX5_25 rfl dX5_car_106 ?_
        refine r_aload_n g dX5_car_109 rfl ?_
        refine rm_get g hM fX5_95 rfl dX5_car_110 ?_
        refine r_topi (y := (nI (s.1 2))) hI.2.2.1 ?_
        refine r_iconst (v := 0) g dX5_car_113 (by decide) ?_
        refine rm_zast 9 (j := s.1 2) g hM hbm rfl rfl rfl (show s.1 2 < 4 by omega) rfl dX5_car_114 ?_
        intro h_10 hM
        refine r_aload_n g dX5_car_115 rfl ?_
        refine r_dup g dX5_car_116 rfl ?_
        refine rm_get g hM fX5_95 rfl dX5_car_117 ?_
        refine r_topi (y := (nI (s.1 2))) hI.2.2.1 ?_
        refine r_iconst (v := 1) g dX5_car_120 (by decide) ?_
        refine r_iadd g dX5_car_121 ?_
        refine r_topi (y := (nI ((s.1 2) + 1))) (nI_add (s.1 2) 1) ?_
        refine rm_put (F' := upd (upd F 0 0) 3 (nI ((s.1 2) + 1))) g hM hbm fX5_95 (by decide) rfl dX5_car_122 ?_
        intro h_12 hM
        refine r_aload_n g dX5_car_125 rfl ?_
        refine rm_get g hM fX5_95 rfl dX5_car_126 ?_
        refine r_topi (y := (nI ((s.1 2) + 1))) rfl ?_
        refine r_iconst (v := 1) g dX5_car_129 (by decide) ?_
        refine r_isub g dX5_car_130 ?_
        have q2r : inR p 1 5 = _ := q2
        have hfe := (inB_at (by omega) q).2
        have hpe := (inR_at (by decide) (by decide) q2r).2.2
        have hs : sCar s f p = (0, nI (s.1 2), (up1 s.1 2 (s.1 2 + 1), fun c => if c = s.1 2 then newCar s f p else s.2.1 c, s.2.2)) := by unfold sCar; rw [if_neg (by rw [q, q2r]; decide), if_neg q3]
        exact r_iret g hr (Nat.le_refl _) (Nat.le_refl _) dX5_car_131 (KP_i (c := 0) hM (by rw [hs]; exact MI_car hI hn1 q4 hfe hpe) rfl (by rw [hs]; rfl) (fun _ => by rw [hs]; exact nI_pred _) (SameG.up (SameG.up (SameG.up (SameG.up (SameG.up (SameG.up SameG.rf (by decide)) (by decide)) (by decide)) (by decide)) (by decide)) (by decide)))
      · skip
        have q3 : s.1 2 = 4 := (nI_c (c := 4) (by omega) (by decide)).mp c27
        refine r_iconst (v := 2) g dX5_car_30 (by decide) ?_
        refine r_goto 35 g dX5_car_31 (by decide) ?_
        refine rm_put (F' := upd F 0 2) g hM hbm fX5_88 (by decide) rfl dX5_car_35 ?_
        intro h_14 hM
        refine r_aload_n g dX5_car_38 rfl ?_
        refine rm_get g hM fX5_88 rfl dX5_car_39 ?_
        refine r_topi (y := 2) rfl ?_
        refine r_if_le 47 g dX5_car_42 (by decide) (fun c42 => absurd c42 (by decide)) (fun c42 => ?_)
        refine r_iconst (v := 0) g dX5_car_45 (by decide) ?_
        have q2r : inR p 1 5 = _ := q2
        have hs : sCar s f p = (2, 0, s) := by unfold sCar; rw [if_neg (by rw [q, q2r]; decide), if_pos q3]
        exact r_iret g hr (Nat.le_refl _) (Nat.le_refl _) dX5_car_46 (KP_i (c := 2) hM (by rw [hs]; exact hI) rfl (by rw [hs]; rfl) (fun z => by rw [hs] at z; cases z) SameG.rf)
    · skip
      have q2 := b2_f c15
      refine r_iconst (v := 1) g dX5_car_18 (by decide) ?_
      refine r_goto 35 g dX5_car_19 (by decide) ?_
      refine rm_put (F' := upd F 0 1) g hM hbm fX5_88 (by decide) rfl dX5_car_35 ?_
      intro h_16 hM
      refine r_aload_n g dX5_car_38 rfl ?_
      refine rm_get g hM fX5_88 rfl dX5_car_39 ?_
      refine r_topi (y := 1) rfl ?_
      refine r_if_le 47 g dX5_car_42 (by decide) (fun c42 => absurd c42 (by decide)) (fun c42 => ?_)
      refine r_iconst (v := 0) g dX5_car_45 (by decide) ?_
      try have q2r : inR p 1 5 = _ := q2
      have hs : sCar s f p = (1, 0, s) := by unfold sCar; rw [if_pos (by first | (rw [q]; rfl) | (rw [q, q2r]; rfl))]
      exact r_iret g hr (Nat.le_refl _) (Nat.le_refl _) dX5_car_46 (KP_i (c := 1) hM (by rw [hs]; exact hI) rfl (by rw [hs]; rfl) (fun z => by rw [hs] at z; cases z) SameG.rf)
theorem nar_le1 (n : Nat) (h : n ≤ 1) : narrow .boolean (.int (nI n)) = .int (nI n) := by
  match n, h with
  | 0, _ => rfl
  | 1, _ => rfl
theorem MI_free {F : Nat → Int32} {A : Nat → Nat → Int32} {s : AS} (hI : MI F A s) {j : Nat} {f x : Int32} {a b : Nat} (hf : f = nI a) (hx : x = nI b) : MI (upd F 0 0) (upA (upA A 5 (upd (A 5) j f)) 6 (upd (A 6) j x)) (s.1, up2 (up2 s.2.1 j 1 a) j 2 b, s.2.2) := by
  obtain ⟨h1, h2, h3, h4, h5, h6, h7, h8⟩ := hI
  refine ⟨h1, h2, h3, h4, h5, fun c hc => ?_, h7, h8⟩
  have h9 := h6 c hc
  by_cases e : c = j
  · subst e; simp [up2, upA, upd, h9, hf, hx]
  · simp [up2, upA, upd, h9, e]
theorem MI_zone {F : Nat → Int32} {A : Nat → Nat → Int32} {s : AS} (hI : MI F A s) {j : Nat} {f x : Int32} {a b : Nat} (hf : f = nI a) (hx : x = nI b) : MI (upd F 0 0) (upA (upA A 7 (upd (A 7) j f)) 8 (upd (A 8) j x)) (s.1, up2 (up2 s.2.1 j 3 a) j 4 b, s.2.2) := by
  obtain ⟨h1, h2, h3, h4, h5, h6, h7, h8⟩ := hI
  refine ⟨h1, h2, h3, h4, h5, fun c hc => ?_, h7, h8⟩
  have h9 := h6 c hc
  by_cases e : c = j
  · subst e; simp [up2, upA, upd, h9, hf, hx]
  · simp [up2, upA, upd, h9, e]
theorem MI_sleep {F : Nat → Int32} {A : Nat → Nat → Int32} {s : AS} (hI : MI F A s) {j : Nat} {f : Int32} {a : Nat} (hf : f = nI a) : MI (upd F 0 0) (upA A 9 (upd (A 9) j f)) (s.1, up2 s.2.1 j 5 a, s.2.2) := by
  obtain ⟨h1, h2, h3, h4, h5, h6, h7, h8⟩ := hI
  refine ⟨h1, h2, h3, h4, h5, fun c hc => ?_, h7, h8⟩
  have h9 := h6 c hc
  by_cases e : c = j
  · subst e; simp [up2, upA, upd, h9, hf]
  · simp [up2, upA, upd, h9, e]
theorem MI_urgent {F : Nat → Int32} {A : Nat → Nat → Int32} {s : AS} (hI : MI F A s) {j : Nat} (hj : j < s.1 3) {f : Int32} {a : Nat} (hf : f = nI a) : MI (upd F 0 0) (upA A 15 (upd (A 15) j f)) (s.1, s.2.1, up2 s.2.2 j 4 a) := by
  obtain ⟨h1, h2, h3, h4, h5, h6, h7, h8⟩ := hI
  refine ⟨h1, h2, h3, h4, ?_, h6, fun c hc => ?_, fun c hc => ?_⟩
  · refine h5.trans (congrArg nI (cnt_cong fun k hk => ?_))
    simp [isOp, up2]
  · have h9 := h7 c hc
    by_cases e : c = j
    · subst e; simp [up2, upA, upd, h9, hf]
    · simp [up2, upA, upd, h9, e]
  · have hc2 : s.1 3 ≤ c := hc
    show upd (A 15) j f c = 0
    rw [pk_un (by omega)]; exact h8 c hc2
theorem MI_begin {F : Nat → Int32} {A : Nat → Nat → Int32} {s : AS} (hI : MI F A s) {j : Nat} {f : Int32} {a : Nat} (hf : f = beI a) : MI (upd F 0 0) (upA A 16 (upd (A 16) j f)) (s.1, s.2.1, up2 s.2.2 j 5 a) := by
  obtain ⟨h1, h2, h3, h4, h5, h6, h7, h8⟩ := hI
  refine ⟨h1, h2, h3, h4, ?_, h6, fun c hc => ?_, h8⟩
  · refine h5.trans (congrArg nI (cnt_cong fun k hk => ?_))
    simp [isOp, up2]
  · have h9 := h7 c hc
    by_cases e : c = j
    · subst e; simp [up2, upA, upd, h9, hf]
    · simp [up2, upA, upd, h9, e]
theorem cnt_off {p q : Nat → Bool} {j : Nat} (hp : p j = true) (hq : q j = false) (ho : ∀ k, k ≠ j → q k = p k) : ∀ n, j < n → cnt q n + 1 = cnt p n
  | 0, h => absurd h (Nat.not_lt_zero _)
  | n + 1, h => by
    unfold cnt
    by_cases e : j = n
    · subst e
      rw [hp, hq, cnt_cong (p := q) (q := p) (fun k hk => ho k (by omega))]
      simp
    · rw [ho n (fun z => e z.symm)]
      have := cnt_off hp hq ho n (by omega)
      omega
theorem nOp_done {s : AS} {j : Nat} (hj : j < s.1 3) (hop : s.2.2 j 3 = 1) : nOp (s.1, s.2.1, up2 s.2.2 j 3 0) + 1 = nOp s := by
  refine cnt_off (j := j) (p := isOp s) (q := isOp (s.1, s.2.1, up2 s.2.2 j 3 0)) ?_ ?_ (fun k hk => ?_) _ hj
  · simp [isOp, hop]
  · simp [isOp, up2]
  · simp [isOp, up2, hk]
theorem MI_done {F : Nat → Int32} {A : Nat → Nat → Int32} {s : AS} (hI : MI F A s) {j : Nat} (hj : j < s.1 3) (hop : s.2.2 j 3 = 1) : MI (upd (upd F 0 0) 17 (nI (nOp s) - 1)) (upA A 14 (upd (A 14) j 0)) (s.1, s.2.1, up2 s.2.2 j 3 0) := by
  obtain ⟨h1, h2, h3, h4, h5, h6, h7, h8⟩ := hI
  refine ⟨h1, h2, h3, h4, ?_, h6, fun c hc => ?_, h8⟩
  · show nI (nOp s) - 1 = _
    rw [← nOp_done hj hop]
    exact nI_pred _
  · have h9 := h7 c hc
    by_cases e : c = j
    · subst e; simp [up2, upA, upd, h9]; rfl
    · simp [up2, upA, upd, h9, e]
theorem MI_pass {F : Nat → Int32} {A : Nat → Nat → Int32} {s : AS} (hI : MI F A s) {x : Int32} {j : Nat} (hx : nI (s.1 1) + x = nI (s.1 1 + j)) : MI (upd (upd F 0 0) 2 (nI (s.1 1) + x)) A (up1 s.1 1 (s.1 1 + j), s.2.1, s.2.2) := by
  obtain ⟨h1, h2, h3, h4, h5, h6, h7, h8⟩ := hI
  exact ⟨h1, hx, h3, h4, h5, h6, h7, h8⟩
theorem nOp_call {s : AS} {f t : Int32} : nOp (up1 s.1 3 (s.1 3 + 1), s.2.1, fun k => if k = s.1 3 then newCall s f t else s.2.2 k) = nOp s + 1 := by
  show cnt _ (s.1 3 + 1) = _
  unfold cnt
  rw [if_pos (by simp [isOp, newCall])]
  exact congrArg (· + 1) (cnt_cong fun k hk => by simp [isOp, Nat.ne_of_lt hk])
theorem MI_call {F : Nat → Int32} {A : Nat → Nat → Int32} {s : AS} (hI : MI F A s) {f t : Int32} (hf : f = nI (iN f)) (ht : t = nI (iN t)) : MI (upd (upd (upd F 0 0) 17 (nI (nOp s + 1))) 10 (nI (s.1 3 + 1))) (upA (upA (upA (upA (upA A 11 (upd (A 11) (s.1 3) f)) 12 (upd (A 12) (s.1 3) t)) 13 (upd (A 13) (s.1 3) (nI (s.1 1)))) 14 (upd (A 14) (s.1 3) 1)) 16 (upd (A 16) (s.1 3) (-1))) (up1 s.1 3 (s.1 3 + 1), s.2.1, fun k => if k = s.1 3 then newCall s f t else s.2.2 k) := by
  obtain ⟨h1, h2, h3, h4, h5, h6, h7, h8⟩ := hI
  refine ⟨h1, h2, h3, rfl, by rw [nOp_call]; rfl, h6, fun c hc => ?_, fun c hc => h8 c (by have hc2 : s.1 3 + 1 ≤ c := hc; omega)⟩
  have hc2 : c < s.1 3 + 1 := hc
  by_cases e : c = s.1 3
  · subst e
    simp only [if_true]
    exact ⟨pk_us.trans hf, pk_us.trans ht, pk_us, pk_us, h8 _ (Nat.le_refl _), pk_us⟩
  · have h9 := h7 c (by omega)
    simp only [if_neg e]
    exact ⟨(pk_un e).trans h9.1, (pk_un e).trans h9.2.1, (pk_un e).trans h9.2.2.1, (pk_un e).trans h9.2.2.2.1, h9.2.2.2.2.1, (pk_un e).trans h9.2.2.2.2.2⟩
set_option maxHeartbeats 4000000 in
set_option maxRecDepth 100000 in
theorem ok_m_free (l : Launch) (G : Nat → ClassId) (D : va_G) (base : Nat) {h : Hp} {nx m : Nat} {F : Nat → Int32} {A : Nat → Nat → Int32} {B : Nat → Int64} (s : AS) (hA : AI s) (hI : MI F A s) (hM : MO h m F A B) (hbm : base ≤ m) (c f x : Int32) : MetP l G D base miX5_free 2 0 0 [.ref m, .int c, .int f, .int x] h nx (KP h nx m A B true (sFree s c f x)) := by
  refine MetP_of (by decide +kernel) rfl ?_
  intro k g hr hR hcl hcg hcd hcb hcn hnx
  subst hcl; subst hcg; subst hcd; subst hcb
  have hM := MS.rf hM
  obtain ⟨⟨hn1, hn2⟩, ht, hnc, hN, -⟩ := id hA
  show Sf k 0 0 h nx 0 [some (.ref m), some (.int c), some (.int f), some (.int x)] []
  refine r_aload_n g dX5_free_0 rfl ?_
  refine r_aload_n g dX5_free_1 rfl ?_
  refine r_iload_n g dX5_free_2 rfl ?_
  refine r_pV g kX5_108 (ok_m_isCar _ _ _ _ hM.1 hI.2.2.1 (by omega) c) hM.1.1 rfl rfl rfl hnx hR (by decide) (Nat.zero_le _) (Nat.zero_le _) rfl rfl dX5_free_3 ?_
  refine r_if_eq 27 g dX5_free_6 (by decide) (fun c6 => ?_) (fun c6 => ?_)
  · skip
    have q := b2_f c6
    refine r_iconst (v := 1) g dX5_free_27 (by decide) ?_
    refine r_goto 32 g dX5_free_28 (by decide) ?_
    refine rm_put (F' := upd F 0 1) g hM hbm fX5_88 (by decide) rfl dX5_free_32 ?_
    intro h_2 hM
    refine r_aload_n g dX5_free_35 rfl ?_
    refine rm_get g hM fX5_88 rfl dX5_free_36 ?_
    refine r_topi (y := 1) rfl ?_
    refine r_if_ne 56 g dX5_free_39 (by decide) (fun c39 => ?_) (fun c39 => absurd c39 (by decide))
    have hs : sFree s c f x = (1, 0, s) := by unfold sFree; rw [if_pos (by first | (rw [q]; rfl) | (rw [q, q2]; rfl) | (rw [q, q2, q3r]; rfl))]
    exact r_vret g hr (Nat.le_refl _) (Nat.le_refl _) dX5_free_56 (KP_v (c := 1) hM (by rw [hs]; exact hI) rfl (by rw [hs]; rfl) SameG.rf)
  · skip
    have q := b2_t c6
    refine r_aload_n g dX5_free_9 rfl ?_
    refine r_iload_n g dX5_free_10 rfl ?_
    refine r_pV g kX5_101 (ok_m_isFloor _ _ _ _ hM.1 hI.1 (by omega) f) hM.1.1 rfl rfl rfl hnx hR (by decide) (Nat.zero_le _) (Nat.zero_le _) rfl rfl dX5_free_11 ?_
    refine r_if_eq 27 g dX5_free_14 (by decide) (fun c14 => ?_) (fun c14 => ?_)
    · skip
      have q2 := b2_f c14
      refine r_iconst (v := 1) g dX5_free_27 (by decide) ?_
      refine r_goto 32 g dX5_free_28 (by decide) ?_
      refine rm_put (F' := upd F 0 1) g hM hbm fX5_88 (by decide) rfl dX5_free_32 ?_
      intro h_4 hM
      refine r_aload_n g dX5_free_35 rfl ?_
      refine rm_get g hM fX5_88 rfl dX5_free_36 ?_
      refine r_topi (y := 1) rfl ?_
      refine r_if_ne 56 g dX5_free_39 (by decide) (fun c39 => ?_) (fun c39 => absurd c39 (by decide))
      have hs : sFree s c f x = (1, 0, s) := by unfold sFree; rw [if_pos (by first | (rw [q]; rfl) | (rw [q, q2]; rfl) | (rw [q, q2, q3r]; rfl))]
      exact r_vret g hr (Nat.le_refl _) (Nat.le_refl _) dX5_free_56 (KP_v (c := 1) hM (by rw [hs]; exact hI) rfl (by rw [hs]; rfl) SameG.rf)
    · skip
      have q2 := b2_t c14
      refine r_iload_n g dX5_free_17 rfl ?_
      refine r_iconst (v := 0) g dX5_free_18 (by decide) ?_
      refine r_ldc g dX5_free_19 vX5_111 ?_
      refine r_pS g kX5_91 (ok_m_isIn _ _ _ _ x 0 100000) rfl rfl hnx hR (by decide) (Nat.zero_le _) (Nat.zero_le _) rfl rfl dX5_free_21 ?_
      refine r_if_ne 31 g dX5_free_24 (by decide) (fun c24 => ?_) (fun c24 => ?_)
      · skip
        have q3r : inR x 0 100000 = true := b2_t c24
        refine r_iconst (v := 0) g dX5_free_31 (by decide) ?_
        refine rm_put (F' := upd F 0 0) g hM hbm fX5_88 (by decide) rfl dX5_free_32 ?_
        intro h_6 hM
        refine r_aload_n g dX5_free_35 rfl ?_
        refine rm_get g hM fX5_88 rfl dX5_free_36 ?_
        refine r_topi (y := 0) rfl ?_
        refine r_if_ne 56 g dX5_free_39 (by decide) (fun c39 => absurd c39 (by decide)) (fun c39 => ?_)
        refine r_aload_n g dX5_free_42 rfl ?_
        refine rm_get g hM fX5_13 rfl dX5_free_43 ?_
        have hci := inB_at (by omega) q
        refine r_iload_n g dX5_free_46 rfl ?_
        refine r_iload_n g dX5_free_47 rfl ?_
        refine rm_iast 5 (j := iN c) g hM hbm rfl (by decide) rfl hci.2 (show iN c < 4 by omega) dX5_free_48 ?_
        intro h_7 hM
        refine r_aload_n g dX5_free_49 rfl ?_
        refine rm_get g hM fX5_16 rfl dX5_free_50 ?_
        refine r_iload_n g dX5_free_53 rfl ?_
        refine r_iload_n g dX5_free_54 rfl ?_
        refine rm_iast 6 (j := iN c) g hM hbm rfl (by decide) rfl hci.2 (show iN c < 4 by omega) dX5_free_55 ?_
        intro h_8 hM
        have hfe := (inB_at (by omega) q2).2
        have hxe := (inR_at (by decide) (by decide) q3r).2.2
        have hs : sFree s c f x = (0, 0, (s.1, up2 (up2 s.2.1 (iN c) 1 (iN f)) (iN c) 2 (iN x), s.2.2)) := by unfold sFree; rw [if_neg (by rw [q, q2, q3r]; decide)]
        exact r_vret g hr (Nat.le_refl _) (Nat.le_refl _) dX5_free_56 (KP_v (c := 0) hM (by rw [hs]; exact MI_free hI hfe hxe) rfl (by rw [hs]; rfl) (SameG.up (SameG.up SameG.rf (by decide)) (by decide)))
      · skip
        have q3r : inR x 0 100000 = false := b2_f c24
        refine r_iconst (v := 1) g dX5_free_27 (by decide) ?_
        refine r_goto 32 g dX5_free_28 (by decide) ?_
        refine rm_put (F' := upd F 0 1) g hM hbm fX5_88 (by decide) rfl dX5_free_32 ?_
        intro h_10 hM
        refine r_aload_n g dX5_free_35 rfl ?_
        refine rm_get g hM fX5_88 rfl dX5_free_36 ?_
        refine r_topi (y := 1) rfl ?_
        refine r_if_ne 56 g dX5_free_39 (by decide) (fun c39 => ?_) (fun c39 => absurd c39 (by decide))
        have hs : sFree s c f x = (1, 0, s) := by unfold sFree; rw [if_pos (by first | (rw [q]; rfl) | (rw [q, q2]; rfl) | (rw [q, q2, q3r]; rfl))]
        exact r_vret g hr (Nat.le_refl _) (Nat.le_refl _) dX5_free_56 (KP_v (c := 1) hM (by rw [hs]; exact hI) rfl (by rw [hs]; rfl) SameG.rf)
set_option maxHeartbeats 4000000 in
set_option maxRecDepth 100000 in
theorem ok_m_zone (l : Launch) (G : Nat → ClassId) (D : va_G) (base : Nat) {h : Hp} {nx m : Nat} {F : Nat → Int32} {A : Nat → Nat → Int32} {B : Nat → Int64} (s : AS) (hA : AI s) (hI : MI F A s) (hM : MO h m F A B) (hbm : base ≤ m) (c a b : Int32) : MetP l G D base miX5_zone 2 0 0 [.ref m, .int c, .int a, .int b] h nx (KP h nx m A B true (sZone s c a b)) := by
  refine MetP_of (by decide +kernel) rfl ?_
  intro k g hr hR hcl hcg hcd hcb hcn hnx
  subst hcl; subst hcg; subst hcd; subst hcb
  have hM := MS.rf hM
  obtain ⟨⟨hn1, hn2⟩, ht, hnc, hN, -⟩ := id hA
  show Sf k 0 0 h nx 0 [some (.ref m), some (.int c), some (.int a), some (.int b)] []
  refine r_aload_n g dX5_zone_0 rfl ?_
  refine r_aload_n g dX5_zone_1 rfl ?_
  refine r_iload_n g dX5_zone_2 rfl ?_
  refine r_pV g kX5_108 (ok_m_isCar _ _ _ _ hM.1 hI.2.2.1 (by omega) c) hM.1.1 rfl rfl rfl hnx hR (by decide) (Nat.zero_le _) (Nat.zero_le _) rfl rfl dX5_zone_3 ?_
  refine r_if_eq 30 g dX5_zone_6 (by decide) (fun c6 => ?_) (fun c6 => ?_)
  · skip
    have q := b2_f c6
    refine r_iconst (v := 1) g dX5_zone_30 (by decide) ?_
    refine r_goto 35 g dX5_zone_31 (by decide) ?_
    refine rm_put (F' := upd F 0 1) g hM hbm fX5_88 (by decide) rfl dX5_zone_35 ?_
    intro h_2 hM
    refine r_aload_n g dX5_zone_38 rfl ?_
    refine rm_get g hM fX5_88 rfl dX5_zone_39 ?_
    refine r_topi (y := 1) rfl ?_
    refine r_if_ne 59 g dX5_zone_42 (by decide) (fun c42 => ?_) (fun c42 => absurd c42 (by decide))
    have hs : sZone s c a b = (1, 0, s) := by unfold sZone; rw [if_pos (by first | (rw [q]; rfl) | (rw [q, q2]; rfl) | (rw [q, q2, q3]; rfl) | (rw [q, q2, q3, decide_eq_false c27]; rfl))]
    exact r_vret g hr (Nat.le_refl _) (Nat.le_refl _) dX5_zone_59 (KP_v (c := 1) hM (by rw [hs]; exact hI) rfl (by rw [hs]; rfl) SameG.rf)
  · skip
    have q := b2_t c6
    refine r_aload_n g dX5_zone_9 rfl ?_
    refine r_iload_n g dX5_zone_10 rfl ?_
    refine r_pV g kX5_101 (ok_m_isFloor _ _ _ _ hM.1 hI.1 (by omega) a) hM.1.1 rfl rfl rfl hnx hR (by decide) (Nat.zero_le _) (Nat.zero_le _) rfl rfl dX5_zone_11 ?_
    refine r_if_eq 30 g dX5_zone_14 (by decide) (fun c14 => ?_) (fun c14 => ?_)
    · skip
      have q2 := b2_f c14
      refine r_iconst (v := 1) g dX5_zone_30 (by decide) ?_
      refine r_goto 35 g dX5_zone_31 (by decide) ?_
      refine rm_put (F' := upd F 0 1) g hM hbm fX5_88 (by decide) rfl dX5_zone_35 ?_
      intro h_4 hM
      refine r_aload_n g dX5_zone_38 rfl ?_
      refine rm_get g hM fX5_88 rfl dX5_zone_39 ?_
      refine r_topi (y := 1) rfl ?_
      refine r_if_ne 59 g dX5_zone_42 (by decide) (fun c42 => ?_) (fun c42 => absurd c42 (by decide))
      have hs : sZone s c a b = (1, 0, s) := by unfold sZone; rw [if_pos (by first | (rw [q]; rfl) | (rw [q, q2]; rfl) | (rw [q, q2, q3]; rfl) | (rw [q, q2, q3, decide_eq_false c27]; rfl))]
      exact r_vret g hr (Nat.le_refl _) (Nat.le_refl _) dX5_zone_59 (KP_v (c := 1) hM (by rw [hs]; exact hI) rfl (by rw [hs]; rfl) SameG.rf)
    · skip
      have q2 := b2_t c14
      refine r_aload_n g dX5_zone_17 rfl ?_
      refine r_iload_n g dX5_zone_18 rfl ?_
      refine r_pV g kX5_101 (ok_m_isFloor _ _ _ _ hM.1 hI.1 (by omega) b) hM.1.1 rfl rfl rfl hnx hR (by decide) (Nat.zero_le _) (Nat.zero_le _) rfl rfl dX5_zone_19 ?_
      refine r_if_eq 30 g dX5_zone_22 (by decide) (fun c22 => ?_) (fun c22 => ?_)
      · skip
        have q3 := b2_f c22
        refine r_iconst (v := 1) g dX5_zone_30 (by decide) ?_
        refine r_goto 35 g dX5_zone_31 (by decide) ?_
        refine rm_put (F' := upd F 0 1) g hM hbm fX5_88 (by decide) rfl dX5_zone_35 ?_
        intro h_6 hM
        refine r_aload_n g dX5_zone_38 rfl ?_
        refine rm_get g hM fX5_88 rfl dX5_zone_39 ?_
        refine r_topi (y := 1) rfl ?_
        refine r_if_ne 59 g dX5_zone_42 (by decide) (fun c42 => ?_) (fun c42 => absurd c42 (by decide))
        have hs : sZone s c a b = (1, 0, s) := by unfold sZone; rw [if_pos (by first | (rw [q]; rfl) | (rw [q, q2]; rfl) | (rw [q, q2, q3]; rfl) | (rw [q, q2, q3, decide_eq_false c27]; rfl))]
        exact r_vret g hr (Nat.le_refl _) (Nat.le_refl _) dX5_zone_59 (KP_v (c := 1) hM (by rw [hs]; exact hI) rfl (by rw [hs]; rfl) SameG.rf)
      · skip
        have q3 := b2_t c22
        refine r_iload_n g dX5_zone_25 rfl ?_
        refine r_iload_n g dX5_zone_26 rfl ?_
        refine r_icmp_le 34 g dX5_zone_27 (by decide) (fun c27 => ?_) (fun c27 => ?_)
        · skip
          refine r_iconst (v := 0) g dX5_zone_34 (by decide) ?_
          refine rm_put (F' := upd F 0 0) g hM hbm fX5_88 (by decide) rfl dX5_zone_35 ?_
          intro h_8 hM
          refine r_aload_n g dX5_zone_38 rfl ?_
          refine rm_get g hM fX5_88 rfl dX5_zone_39 ?_
          refine r_topi (y := 0) rfl ?_
          refine r_if_ne 59 g dX5_zone_42 (by decide) (fun c42 => absurd c42 (by decide)) (fun c42 => ?_)
          refine r_aload_n g dX5_zone_45 rfl ?_
          refine rm_get g hM fX5_19 rfl dX5_zone_46 ?_
          have hci := inB_at (by omega) q
          refine r_iload_n g dX5_zone_49 rfl ?_
          refine r_iload_n g dX5_zone_50 rfl ?_
          refine rm_iast 7 (j := iN c) g hM hbm rfl (by decide) rfl hci.2 (show iN c < 4 by omega) dX5_zone_51 ?_
          intro h_9 hM
          refine r_aload_n g dX5_zone_52 rfl ?_
          refine rm_get g hM fX5_22 rfl dX5_zone_53 ?_
          refine r_iload_n g dX5_zone_56 rfl ?_
          refine r_iload_n g dX5_zone_57 rfl ?_
          refine rm_iast 8 (j := iN c) g hM hbm rfl (by decide) rfl hci.2 (show iN c < 4 by omega) dX5_zone_58 ?_
          intro h_10 hM
          have hae := (inB_at (by omega) q2).2
          have hbe := (inB_at (by omega) q3).2
          have hs : sZone s c a b = (0, 0, (s.1, up2 (up2 s.2.1 (iN c) 3 (iN a)) (iN c) 4 (iN b), s.2.2)) := by unfold sZone; rw [if_neg (by rw [q, q2, q3, decide_eq_true c27]; decide)]
          exact r_vret g hr (Nat.le_refl _) (Nat.le_refl _) dX5_zone_59 (KP_v (c := 0) hM (by rw [hs]; exact MI_zone hI hae hbe) rfl (by rw [hs]; rfl) (SameG.up (SameG.up SameG.rf (by decide)) (by decide)))
        · skip
          refine r_iconst (v := 1) g dX5_zone_30 (by decide) ?_
          refine r_goto 35 g dX5_zone_31 (by decide) ?_
          refine rm_put (F' := upd F 0 1) g hM hbm fX5_88 (by decide) rfl dX5_zone_35 ?_
          intro h_12 hM
          refine r_aload_n g dX5_zone_38 rfl ?_
          refine rm_get g hM fX5_88 rfl dX5_zone_39 ?_
          refine r_topi (y := 1) rfl ?_
          refine r_if_ne 59 g dX5_zone_42 (by decide) (fun c42 => ?_) (fun c42 => absurd c42 (by decide))
          have hs : sZone s c a b = (1, 0, s) := by unfold sZone; rw [if_pos (by first | (rw [q]; rfl) | (rw [q, q2]; rfl) | (rw [q, q2, q3]; rfl) | (rw [q, q2, q3, decide_eq_false c27]; rfl))]
          exact r_vret g hr (Nat.le_refl _) (Nat.le_refl _) dX5_zone_59 (KP_v (c := 1) hM (by rw [hs]; exact hI) rfl (by rw [hs]; rfl) SameG.rf)
set_option maxHeartbeats 4000000 in
set_option maxRecDepth 100000 in
theorem ok_m_sleep (l : Launch) (G : Nat → ClassId) (D : va_G) (base : Nat) {h : Hp} {nx m : Nat} {F : Nat → Int32} {A : Nat → Nat → Int32} {B : Nat → Int64} (s : AS) (hA : AI s) (hI : MI F A s) (hM : MO h m F A B) (hbm : base ≤ m) (c : Int32) (on : Bool) : MetP l G D base miX5_sleep 2 0 0 [.ref m, .int c, .int (b2 on)] h nx (KP h nx m A B false (sSleep s c on)) := by
  refine MetP_of (by decide +kernel) rfl ?_
  intro k g hr hR hcl hcg hcd hcb hcn hnx
  subst hcl; subst hcg; subst hcd; subst hcb
  have hM := MS.rf hM
  obtain ⟨⟨hn1, hn2⟩, ht, hnc, hN, -⟩ := id hA
  have hz := nar_le1
  show Sf k 0 0 h nx 0 [some (.ref m), some (.int c), some (.int (b2 on)), none] []
  refine r_aload_n g dX5_sleep_0 rfl ?_
  refine r_aload_n g dX5_sleep_1 rfl ?_
  refine r_iload_n g dX5_sleep_2 rfl ?_
  refine r_pV g kX5_108 (ok_m_isCar _ _ _ _ hM.1 hI.2.2.1 (by omega) c) hM.1.1 rfl rfl rfl hnx hR (by decide) (Nat.zero_le _) (Nat.zero_le _) rfl rfl dX5_sleep_3 ?_
  refine r_if_eq 13 g dX5_sleep_6 (by decide) (fun c6 => ?_) (fun c6 => ?_)
  · skip
    have q := b2_f c6
    refine r_iconst (v := 1) g dX5_sleep_13 (by decide) ?_
    refine rm_put (F' := upd F 0 1) g hM hbm fX5_88 (by decide) rfl dX5_sleep_14 ?_
    intro h_2 hM
    refine r_aload_n g dX5_sleep_17 rfl ?_
    refine rm_get g hM fX5_88 rfl dX5_sleep_18 ?_
    refine r_topi (y := 1) rfl ?_
    refine r_if_le 26 g dX5_sleep_21 (by decide) (fun c21 => absurd c21 (by decide)) (fun c21 => ?_)
    refine r_iconst (v := 0) g dX5_sleep_24 (by decide) ?_
    have hs : sSleep s c on = (1, 0, s) := by unfold sSleep; rw [if_pos q]
    exact r_zret g hr (Nat.le_refl _) (Nat.le_refl _) dX5_sleep_25 rfl (KP_i (c := 1) hM (by rw [hs]; exact hI) rfl (by rw [hs]; rfl) (fun z => by rw [hs] at z; cases z) SameG.rf)
  · skip
    have q := b2_t c6
    refine r_iconst (v := 0) g dX5_sleep_9 (by decide) ?_
    refine r_goto 14 g dX5_sleep_10 (by decide) ?_
    refine rm_put (F' := upd F 0 0) g hM hbm fX5_88 (by decide) rfl dX5_sleep_14 ?_
    intro h_4 hM
    refine r_aload_n g dX5_sleep_17 rfl ?_
    refine rm_get g hM fX5_88 rfl dX5_sleep_18 ?_
    refine r_topi (y := 0) rfl ?_
    refine r_if_le 26 g dX5_sleep_21 (by decide) (fun c21 => ?_) (fun c21 => absurd c21 (by decide))
    refine r_aload_n g dX5_sleep_26 rfl ?_
    refine rm_get g hM fX5_25 rfl dX5_sleep_27 ?_
    have hci := inB_at (by omega) q
    have h51 := (hA.2.2.2.2.1 _ hci.1).2.2.2.2
    refine r_iload_n g dX5_sleep_30 rfl ?_
    refine rm_zald 9 (j := iN c) g hM rfl rfl hci.2 (show iN c < 4 by omega) dX5_sleep_31 ?_
    refine r_topi (y := (nI (s.2.1 (iN c) 5))) (hI.2.2.2.2.2.1 (iN c) (by omega)).2.2.2.2.2 ?_
    refine r_istore_n g dX5_sleep_32 rfl rfl rfl ?_
    refine r_aload_n g dX5_sleep_33 rfl ?_
    refine rm_get g hM fX5_25 rfl dX5_sleep_34 ?_
    refine r_iload_n g dX5_sleep_37 rfl ?_
    refine r_iload_n g dX5_sleep_38 rfl ?_
    refine rm_zast 9 (j := iN c) g hM hbm rfl rfl hci.2 (show iN c < 4 by omega) (b2_nar on) dX5_sleep_39 ?_
    intro h_5 hM
    refine r_iload_n g dX5_sleep_40 rfl ?_
    have hs : sSleep s c on = (0, nI (s.2.1 (iN c) 5), (s.1, up2 s.2.1 (iN c) 5 (if on = true then 1 else 0), s.2.2)) := by unfold sSleep; rw [if_neg (by rw [q]; decide)]
    exact r_zret g hr (Nat.le_refl _) (Nat.le_refl _) dX5_sleep_41 (hz _ (by omega)) (KP_i (c := 0) hM (by rw [hs]; exact MI_sleep hI (b2_nI on)) rfl (by rw [hs]; rfl) (fun _ => by rw [hs]) (SameG.up SameG.rf (by decide)))
set_option maxHeartbeats 4000000 in
set_option maxRecDepth 100000 in
theorem ok_m_urgent (l : Launch) (G : Nat → ClassId) (D : va_G) (base : Nat) {h : Hp} {nx m : Nat} {F : Nat → Int32} {A : Nat → Nat → Int32} {B : Nat → Int64} (s : AS) (hA : AI s) (hI : MI F A s) (hM : MO h m F A B) (hbm : base ≤ m) (x : Int32) (on : Bool) : MetP l G D base miX5_urgent 2 0 0 [.ref m, .int x, .int (b2 on)] h nx (KP h nx m A B false (sUrgent s x on)) := by
  refine MetP_of (by decide +kernel) rfl ?_
  intro k g hr hR hcl hcg hcd hcb hcn hnx
  subst hcl; subst hcg; subst hcd; subst hcb
  have hM := MS.rf hM
  obtain ⟨⟨hn1, hn2⟩, ht, hnc, hN, -⟩ := id hA
  have hz := nar_le1
  show Sf k 0 0 h nx 0 [some (.ref m), some (.int x), some (.int (b2 on)), none] []
  refine r_aload_n g dX5_urgent_0 rfl ?_
  refine r_aload_n g dX5_urgent_1 rfl ?_
  refine r_iload_n g dX5_urgent_2 rfl ?_
  refine r_pV g kX5_115 (ok_m_isOpenCall _ _ _ _ s hA hI hM.1 x) hM.1.1 rfl rfl rfl hnx hR (by decide) (Nat.zero_le _) (Nat.zero_le _) rfl rfl dX5_urgent_3 ?_
  refine r_if_eq 13 g dX5_urgent_6 (by decide) (fun c6 => ?_) (fun c6 => ?_)
  · skip
    have q := b2_f c6
    refine r_iconst (v := 1) g dX5_urgent_13 (by decide) ?_
    refine rm_put (F' := upd F 0 1) g hM hbm fX5_88 (by decide) rfl dX5_urgent_14 ?_
    intro h_2 hM
    refine r_aload_n g dX5_urgent_17 rfl ?_
    refine rm_get g hM fX5_88 rfl dX5_urgent_18 ?_
    refine r_topi (y := 1) rfl ?_
    refine r_if_le 26 g dX5_urgent_21 (by decide) (fun c21 => absurd c21 (by decide)) (fun c21 => ?_)
    refine r_iconst (v := 0) g dX5_urgent_24 (by decide) ?_
    have hs : sUrgent s x on = (1, 0, s) := by unfold sUrgent; rw [if_pos q]
    exact r_zret g hr (Nat.le_refl _) (Nat.le_refl _) dX5_urgent_25 rfl (KP_i (c := 1) hM (by rw [hs]; exact hI) rfl (by rw [hs]; rfl) (fun z => by rw [hs] at z; cases z) SameG.rf)
  · skip
    have q := b2_t c6
    refine r_iconst (v := 0) g dX5_urgent_9 (by decide) ?_
    refine r_goto 14 g dX5_urgent_10 (by decide) ?_
    refine rm_put (F' := upd F 0 0) g hM hbm fX5_88 (by decide) rfl dX5_urgent_14 ?_
    intro h_4 hM
    refine r_aload_n g dX5_urgent_17 rfl ?_
    refine rm_get g hM fX5_88 rfl dX5_urgent_18 ?_
    refine r_topi (y := 0) rfl ?_
    refine r_if_le 26 g dX5_urgent_21 (by decide) (fun c21 => ?_) (fun c21 => absurd c21 (by decide))
    refine r_aload_n g dX5_urgent_26 rfl ?_
    refine rm_get g hM fX5_41 rfl dX5_urgent_27 ?_
    have hci := opB_at hA q
    have h51 := (hA.2.2.2.2.2.1 _ hci.1).2.2.2.2.1
    refine r_iload_n g dX5_urgent_30 rfl ?_
    refine rm_zald 15 (j := iN x) g hM rfl rfl hci.2.1 (show iN x < 400 by omega) dX5_urgent_31 ?_
    refine r_topi (y := (nI (s.2.2 (iN x) 4))) (hI.2.2.2.2.2.2.1 (iN x) (by omega)).2.2.2.2.1 ?_
    refine r_istore_n g dX5_urgent_32 rfl rfl rfl ?_
    refine r_aload_n g dX5_urgent_33 rfl ?_
    refine rm_get g hM fX5_41 rfl dX5_urgent_34 ?_
    refine r_iload_n g dX5_urgent_37 rfl ?_
    refine r_iload_n g dX5_urgent_38 rfl ?_
    refine rm_zast 15 (j := iN x) g hM hbm rfl rfl hci.2.1 (show iN x < 400 by omega) (b2_nar on) dX5_urgent_39 ?_
    intro h_5 hM
    refine r_iload_n g dX5_urgent_40 rfl ?_
    have hs : sUrgent s x on = (0, nI (s.2.2 (iN x) 4), (s.1, s.2.1, up2 s.2.2 (iN x) 4 (if on = true then 1 else 0))) := by unfold sUrgent; rw [if_neg (by rw [q]; decide)]
    exact r_zret g hr (Nat.le_refl _) (Nat.le_refl _) dX5_urgent_41 (hz _ (by omega)) (KP_i (c := 0) hM (by rw [hs]; exact MI_urgent hI hci.1 (b2_nI on)) rfl (by rw [hs]; rfl) (fun _ => by rw [hs]) (SameG.up SameG.rf (by decide)))
set_option maxHeartbeats 4000000 in
set_option maxRecDepth 100000 in
theorem ok_m_done (l : Launch) (G : Nat → ClassId) (D : va_G) (base : Nat) {h : Hp} {nx m : Nat} {F : Nat → Int32} {A : Nat → Nat → Int32} {B : Nat → Int64} (s : AS) (hA : AI s) (hI : MI F A s) (hM : MO h m F A B) (hbm : base ≤ m) (x : Int32) : MetP l G D base miX5_done 2 0 0 [.ref m, .int x] h nx (KP h nx m A B true (sDone s x)) := by
  refine MetP_of (by decide +kernel) rfl ?_
  intro k g hr hR hcl hcg hcd hcb hcn hnx
  subst hcl; subst hcg; subst hcd; subst hcb
  have hM := MS.rf hM
  obtain ⟨⟨hn1, hn2⟩, ht, hnc, hN, -⟩ := id hA
  show Sf k 0 0 h nx 0 [some (.ref m), some (.int x)] []
  refine r_aload_n g dX5_done_0 rfl ?_
  refine r_aload_n g dX5_done_1 rfl ?_
  refine r_iload_n g dX5_done_2 rfl ?_
  refine r_pV g kX5_115 (ok_m_isOpenCall _ _ _ _ s hA hI hM.1 x) hM.1.1 rfl rfl rfl hnx hR (by decide) (Nat.zero_le _) (Nat.zero_le _) rfl rfl dX5_done_3 ?_
  refine r_if_eq 13 g dX5_done_6 (by decide) (fun c6 => ?_) (fun c6 => ?_)
  · skip
    have q := b2_f c6
    refine r_iconst (v := 1) g dX5_done_13 (by decide) ?_
    refine rm_put (F' := upd F 0 1) g hM hbm fX5_88 (by decide) rfl dX5_done_14 ?_
    intro h_2 hM
    refine r_aload_n g dX5_done_17 rfl ?_
    refine rm_get g hM fX5_88 rfl dX5_done_18 ?_
    refine r_topi (y := 1) rfl ?_
    refine r_if_ne 41 g dX5_done_21 (by decide) (fun c21 => ?_) (fun c21 => absurd c21 (by decide))
    have hs : sDone s x = (1, 0, s) := by unfold sDone; rw [if_pos q]
    exact r_vret g hr (Nat.le_refl _) (Nat.le_refl _) dX5_done_41 (KP_v (c := 1) hM (by rw [hs]; exact hI) rfl (by rw [hs]; rfl) SameG.rf)
  · skip
    have q := b2_t c6
    refine r_iconst (v := 0) g dX5_done_9 (by decide) ?_
    refine r_goto 14 g dX5_done_10 (by decide) ?_
    refine rm_put (F' := upd F 0 0) g hM hbm fX5_88 (by decide) rfl dX5_done_14 ?_
    intro h_4 hM
    refine r_aload_n g dX5_done_17 rfl ?_
    refine rm_get g hM fX5_88 rfl dX5_done_18 ?_
    refine r_topi (y := 0) rfl ?_
    refine r_if_ne 41 g dX5_done_21 (by decide) (fun c21 => absurd c21 (by decide)) (fun c21 => ?_)
    refine r_aload_n g dX5_done_24 rfl ?_
    refine rm_get g hM fX5_38 rfl dX5_done_25 ?_
    have hci := opB_at hA q
    refine r_iload_n g dX5_done_28 rfl ?_
    refine r_iconst (v := 0) g dX5_done_29 (by decide) ?_
    refine rm_zast 14 (j := iN x) g hM hbm rfl rfl hci.2.1 (show iN x < 400 by omega) rfl dX5_done_30 ?_
    intro h_5 hM
    refine r_aload_n g dX5_done_31 rfl ?_
    refine r_dup g dX5_done_32 rfl ?_
    refine rm_get g hM fX5_112 rfl dX5_done_33 ?_
    refine r_topi (y := (nI (nOp s))) hI.2.2.2.2.1 ?_
    refine r_iconst (v := 1) g dX5_done_36 (by decide) ?_
    refine r_isub g dX5_done_37 ?_
    refine rm_put (F' := upd (upd F 0 0) 17 ((nI (nOp s)) - 1)) g hM hbm fX5_112 (by decide) rfl dX5_done_38 ?_
    intro h_7 hM
    have hs : sDone s x = (0, 0, (s.1, s.2.1, up2 s.2.2 (iN x) 3 0)) := by unfold sDone; rw [if_neg (by rw [q]; decide)]
    exact r_vret g hr (Nat.le_refl _) (Nat.le_refl _) dX5_done_41 (KP_v (c := 0) hM (by rw [hs]; exact MI_done hI hci.1 hci.2.2) rfl (by rw [hs]; rfl) (SameG.up SameG.rf (by decide)))
theorem pass_at {t : Nat} {x : Int32} (ht : t ≤ 100000) (h : inR x 1 1000 = true) : nI t + x = nI (t + iN x) ∧ (nI t + x ≤ 100000 ↔ t + iN x ≤ 100000) := by
  obtain ⟨h1, h2, h3⟩ := inR_at (by decide) (by decide) h
  have e : nI t + x = nI (t + iN x) := by rw [h3, iN_nI (by omega)]; exact nI_add _ _
  exact ⟨e, by rw [e]; exact nI_leI (b := 100000) (by omega) (by decide)⟩
set_option maxHeartbeats 4000000 in
set_option maxRecDepth 100000 in
theorem ok_m_pass (l : Launch) (G : Nat → ClassId) (D : va_G) (base : Nat) {h : Hp} {nx m : Nat} {F : Nat → Int32} {A : Nat → Nat → Int32} {B : Nat → Int64} (s : AS) (hA : AI s) (hI : MI F A s) (hM : MO h m F A B) (hbm : base ≤ m) (x : Int32) : MetP l G D base miX5_pass 2 0 0 [.ref m, .int x] h nx (KP h nx m A B false (sPass s x)) := by
  refine MetP_of (by decide +kernel) rfl ?_
  intro k g hr hR hcl hcg hcd hcb hcn hnx
  subst hcl; subst hcg; subst hcd; subst hcb
  have hM := MS.rf hM
  obtain ⟨⟨hn1, hn2⟩, ht, hnc, hN, -⟩ := id hA
  show Sf k 0 0 h nx 0 [some (.ref m), some (.int x)] []
  refine r_aload_n g dX5_pass_0 rfl ?_
  refine r_iload_n g dX5_pass_1 rfl ?_
  refine r_iconst (v := 1) g dX5_pass_2 (by decide) ?_
  refine r_sipush (v := 1000) g dX5_pass_3 (by decide) ?_
  refine r_pS g kX5_91 (ok_m_isIn _ _ _ _ x 1 1000) rfl rfl hnx hR (by decide) (Nat.zero_le _) (Nat.zero_le _) rfl rfl dX5_pass_6 ?_
  refine r_if_eq 23 g dX5_pass_9 (by decide) (fun c9 => ?_) (fun c9 => ?_)
  · skip
    have q : inR x 1 1000 = false := b2_f c9
    refine r_iconst (v := 1) g dX5_pass_23 (by decide) ?_
    refine r_goto 28 g dX5_pass_24 (by decide) ?_
    refine rm_put (F' := upd F 0 1) g hM hbm fX5_88 (by decide) rfl dX5_pass_28 ?_
    intro h_2 hM
    refine r_aload_n g dX5_pass_31 rfl ?_
    refine rm_get g hM fX5_88 rfl dX5_pass_32 ?_
    refine r_topi (y := 1) rfl ?_
    refine r_if_le 40 g dX5_pass_35 (by decide) (fun c35 => absurd c35 (by decide)) (fun c35 => ?_)
    refine r_iconst (v := 0) g dX5_pass_38 (by decide) ?_
    have hs : sPass s x = (1, 0, s) := by unfold sPass; first | rw [if_pos q] | (rw [if_neg (by rw [q]; decide), if_pos (Nat.lt_of_not_le (fun z => c20 ((pass_at ht q).2.mpr z)))])
    exact r_iret g hr (Nat.le_refl _) (Nat.le_refl _) dX5_pass_39 (KP_i (c := 1) hM (by rw [hs]; exact hI) rfl (by rw [hs]; rfl) (fun z => by rw [hs] at z; cases z) SameG.rf)
  · skip
    have q : inR x 1 1000 = true := b2_t c9
    refine r_aload_n g dX5_pass_12 rfl ?_
    refine rm_get g hM fX5_105 rfl dX5_pass_13 ?_
    refine r_topi (y := (nI (s.1 1))) hI.2.1 ?_
    refine r_iload_n g dX5_pass_16 rfl ?_
    refine r_iadd g dX5_pass_17 ?_
    refine r_ldc g dX5_pass_18 vX5_111 ?_
    refine r_icmp_le 27 g dX5_pass_20 (by decide) (fun c20 => ?_) (fun c20 => ?_)
    · skip
      refine r_iconst (v := 0) g dX5_pass_27 (by decide) ?_
      refine rm_put (F' := upd F 0 0) g hM hbm fX5_88 (by decide) rfl dX5_pass_28 ?_
      intro h_4 hM
      refine r_aload_n g dX5_pass_31 rfl ?_
      refine rm_get g hM fX5_88 rfl dX5_pass_32 ?_
      refine r_topi (y := 0) rfl ?_
      refine r_if_le 40 g dX5_pass_35 (by decide) (fun c35 => ?_) (fun c35 => absurd c35 (by decide))
      refine r_aload_n g dX5_pass_40 rfl ?_
      refine r_dup g dX5_pass_41 rfl ?_
      refine rm_get g hM fX5_105 rfl dX5_pass_42 ?_
      refine r_topi (y := (nI (s.1 1))) hI.2.1 ?_
      refine r_iload_n g dX5_pass_45 rfl ?_
      refine r_iadd g dX5_pass_46 ?_
      refine rm_put (F' := upd (upd F 0 0) 2 ((nI (s.1 1)) + x)) g hM hbm fX5_105 (by decide) rfl dX5_pass_47 ?_
      intro h_6 hM
      refine r_aload_n g dX5_pass_50 rfl ?_
      refine rm_get g hM fX5_105 rfl dX5_pass_51 ?_
      refine r_topi (y := ((nI (s.1 1)) + x)) rfl ?_
      have hp := pass_at ht q
      have hle := hp.2.mp c20
      have hs : sPass s x = (0, nI (s.1 1 + iN x), (up1 s.1 1 (s.1 1 + iN x), s.2.1, s.2.2)) := by unfold sPass; rw [if_neg (by rw [q]; decide), if_neg (by omega)]
      exact r_iret g hr (Nat.le_refl _) (Nat.le_refl _) dX5_pass_54 (KP_i (c := 0) hM (by rw [hs]; exact MI_pass hI hp.1) rfl (by rw [hs]; rfl) (fun _ => by rw [hs]; exact hp.1) SameG.rf)
    · skip
      refine r_iconst (v := 1) g dX5_pass_23 (by decide) ?_
      refine r_goto 28 g dX5_pass_24 (by decide) ?_
      refine rm_put (F' := upd F 0 1) g hM hbm fX5_88 (by decide) rfl dX5_pass_28 ?_
      intro h_8 hM
      refine r_aload_n g dX5_pass_31 rfl ?_
      refine rm_get g hM fX5_88 rfl dX5_pass_32 ?_
      refine r_topi (y := 1) rfl ?_
      refine r_if_le 40 g dX5_pass_35 (by decide) (fun c35 => absurd c35 (by decide)) (fun c35 => ?_)
      refine r_iconst (v := 0) g dX5_pass_38 (by decide) ?_
      have hs : sPass s x = (1, 0, s) := by unfold sPass; first | rw [if_pos q] | (rw [if_neg (by rw [q]; decide), if_pos (Nat.lt_of_not_le (fun z => c20 ((pass_at ht q).2.mpr z)))])
      exact r_iret g hr (Nat.le_refl _) (Nat.le_refl _) dX5_pass_39 (KP_i (c := 1) hM (by rw [hs]; exact hI) rfl (by rw [hs]; rfl) (fun z => by rw [hs] at z; cases z) SameG.rf)
set_option maxHeartbeats 4000000 in
set_option maxRecDepth 100000 in
theorem ok_m_call (l : Launch) (G : Nat → ClassId) (D : va_G) (base : Nat) {h : Hp} {nx m : Nat} {F : Nat → Int32} {A : Nat → Nat → Int32} {B : Nat → Int64} (s : AS) (hA : AI s) (hI : MI F A s) (hM : MO h m F A B) (hbm : base ≤ m) (f t : Int32) : MetP l G D base miX5_call 2 0 0 [.ref m, .int f, .int t] h nx (KP h nx m A B false (sCall s f t)) := by
  refine MetP_of (by decide +kernel) rfl ?_
  intro k g hr hR hcl hcg hcd hcb hcn hnx
  subst hcl; subst hcg; subst hcd; subst hcb
  have hM := MS.rf hM
  obtain ⟨⟨hn1, hn2⟩, ht, hnc, hN, -, -, hop6, -⟩ := id hA
  show Sf k 0 0 h nx 0 [some (.ref m), some (.int f), some (.int t)] []
  refine r_aload_n g dX5_call_0 rfl ?_
  refine r_aload_n g dX5_call_1 rfl ?_
  refine r_iload_n g dX5_call_2 rfl ?_
  refine r_pV g kX5_101 (ok_m_isFloor _ _ _ _ hM.1 hI.1 (by omega) f) hM.1.1 rfl rfl rfl hnx hR (by decide) (Nat.zero_le _) (Nat.zero_le _) rfl rfl dX5_call_3 ?_
  refine r_if_eq 22 g dX5_call_6 (by decide) (fun c6 => ?_) (fun c6 => ?_)
  · skip
    have q := b2_f c6
    refine r_iconst (v := 1) g dX5_call_22 (by decide) ?_
    refine r_goto 50 g dX5_call_23 (by decide) ?_
    refine rm_put (F' := upd F 0 1) g hM hbm fX5_88 (by decide) rfl dX5_call_50 ?_
    intro h_2 hM
    refine r_aload_n g dX5_call_53 rfl ?_
    refine rm_get g hM fX5_88 rfl dX5_call_54 ?_
    refine r_topi (y := 1) rfl ?_
    refine r_if_le 62 g dX5_call_57 (by decide) (fun c57 => absurd c57 (by decide)) (fun c57 => ?_)
    refine r_iconst (v := 0) g dX5_call_60 (by decide) ?_
    have hs : sCall s f t = (1, 0, s) := by unfold sCall; rw [if_pos (by first | (rw [q]; rfl) | (rw [q, q2]; rfl) | (rw [q, q2, decide_eq_true c19]; rfl))]
    exact r_iret g hr (Nat.le_refl _) (Nat.le_refl _) dX5_call_61 (KP_i (c := 1) hM (by rw [hs]; exact hI) rfl (by rw [hs]; rfl) (fun z => by rw [hs] at z; cases z) SameG.rf)
  · skip
    have q := b2_t c6
    refine r_aload_n g dX5_call_9 rfl ?_
    refine r_iload_n g dX5_call_10 rfl ?_
    refine r_pV g kX5_101 (ok_m_isFloor _ _ _ _ hM.1 hI.1 (by omega) t) hM.1.1 rfl rfl rfl hnx hR (by decide) (Nat.zero_le _) (Nat.zero_le _) rfl rfl dX5_call_11 ?_
    refine r_if_eq 22 g dX5_call_14 (by decide) (fun c14 => ?_) (fun c14 => ?_)
    · skip
      have q2 := b2_f c14
      refine r_iconst (v := 1) g dX5_call_22 (by decide) ?_
      refine r_goto 50 g dX5_call_23 (by decide) ?_
      refine rm_put (F' := upd F 0 1) g hM hbm fX5_88 (by decide) rfl dX5_call_50 ?_
      intro h_4 hM
      refine r_aload_n g dX5_call_53 rfl ?_
      refine rm_get g hM fX5_88 rfl dX5_call_54 ?_
      refine r_topi (y := 1) rfl ?_
      refine r_if_le 62 g dX5_call_57 (by decide) (fun c57 => absurd c57 (by decide)) (fun c57 => ?_)
      refine r_iconst (v := 0) g dX5_call_60 (by decide) ?_
      have hs : sCall s f t = (1, 0, s) := by unfold sCall; rw [if_pos (by first | (rw [q]; rfl) | (rw [q, q2]; rfl) | (rw [q, q2, decide_eq_true c19]; rfl))]
      exact r_iret g hr (Nat.le_refl _) (Nat.le_refl _) dX5_call_61 (KP_i (c := 1) hM (by rw [hs]; exact hI) rfl (by rw [hs]; rfl) (fun z => by rw [hs] at z; cases z) SameG.rf)
    · skip
      have q2 := b2_t c14
      refine r_iload_n g dX5_call_17 rfl ?_
      refine r_iload_n g dX5_call_18 rfl ?_
      refine r_icmp_ne 26 g dX5_call_19 (by decide) (fun c19 => ?_) (fun c19 => ?_)
      · skip
        refine r_aload_n g dX5_call_26 rfl ?_
        refine rm_get g hM fX5_112 rfl dX5_call_27 ?_
        refine r_topi (y := (nI (nOp s))) hI.2.2.2.2.1 ?_
        refine r_bipush (v := 6) g dX5_call_30 (by decide) ?_
        refine r_icmp_eq 45 g dX5_call_32 (by decide) (fun c32 => ?_) (fun c32 => ?_)
        · skip
          have q4 : nOp s = 6 := (nI_c (c := 6) (by omega) (by decide)).mp c32
          refine r_iconst (v := 2) g dX5_call_45 (by decide) ?_
          refine r_goto 50 g dX5_call_46 (by decide) ?_
          refine rm_put (F' := upd F 0 2) g hM hbm fX5_88 (by decide) rfl dX5_call_50 ?_
          intro h_6 hM
          refine r_aload_n g dX5_call_53 rfl ?_
          refine rm_get g hM fX5_88 rfl dX5_call_54 ?_
          refine r_topi (y := 2) rfl ?_
          refine r_if_le 62 g dX5_call_57 (by decide) (fun c57 => absurd c57 (by decide)) (fun c57 => ?_)
          refine r_iconst (v := 0) g dX5_call_60 (by decide) ?_
          have hs : sCall s f t = (2, 0, s) := by unfold sCall; rw [if_neg (by rw [q, q2, decide_eq_false c19]; decide), if_pos (by first | exact Or.inl q4 | exact Or.inr q5)]
          exact r_iret g hr (Nat.le_refl _) (Nat.le_refl _) dX5_call_61 (KP_i (c := 2) hM (by rw [hs]; exact hI) rfl (by rw [hs]; rfl) (fun z => by rw [hs] at z; cases z) SameG.rf)
        · skip
          have q4 : ¬ nOp s = 6 := fun z => c32 (by rw [z]; rfl)
          refine r_aload_n g dX5_call_35 rfl ?_
          refine rm_get g hM fX5_98 rfl dX5_call_36 ?_
          refine r_topi (y := (nI (s.1 3))) hI.2.2.2.1 ?_
          refine r_sipush (v := 400) g dX5_call_39 (by decide) ?_
          refine r_icmp_ne 49 g dX5_call_42 (by decide) (fun c42 => ?_) (fun c42 => ?_)
          · skip
            have q5 : ¬ s.1 3 = 400 := fun z => c42 (by rw [z]; rfl)
            have q6 : s.1 3 < 400 := by omega
            refine r_iconst (v := 0) g dX5_call_49 (by decide) ?_
            refine rm_put (F' := upd F 0 0) g hM hbm fX5_88 (by decide) rfl dX5_call_50 ?_
            intro h_8 hM
            refine r_aload_n g dX5_call_53 rfl ?_
            refine rm_get g hM fX5_88 rfl dX5_call_54 ?_
            refine r_topi (y := 0) rfl ?_
            refine r_if_le 62 g dX5_call_57 (by decide) (fun c57 => ?_) (fun c57 => absurd c57 (by decide))
            refine r_aload_n g dX5_call_62 rfl ?_
            refine rm_get g hM fX5_29 rfl dX5_call_63 ?_
            refine r_aload_n g dX5_call_66 rfl ?_
            refine rm_get g hM fX5_98 rfl dX5_call_67 ?_
            refine r_topi (y := (nI (s.1 3))) hI.2.2.2.1 ?_
            refine r_iload_n g dX5_call_70 rfl ?_
            refine rm_iast 11 (j := s.1 3) g hM hbm rfl (by decide) rfl rfl (show s.1 3 < 400 by omega) dX5_call_71 ?_
            intro h_9 hM
            refine r_aload_n g dX5_call_72 rfl ?_
            refine rm_get g hM fX5_32 rfl dX5_call_73 ?_
            refine r_aload_n g dX5_call_76 rfl ?_
            refine rm_get g hM fX5_98 rfl dX5_call_77 ?_
            refine r_topi (y := (nI (s.1 3))) hI.2.2.2.1 ?_
            refine r_iload_n g dX5_call_80 rfl ?_
            refine rm_iast 12 (j := s.1 3) g hM hbm rfl (by decide) rfl rfl (show s.1 3 < 400 by omega) dX5_call_81 ?_
            intro h_10 hM
            refine r_aload_n g dX5_call_82 rfl ?_
            refine rm_get g hM fX5_35 rfl dX5_call_83 ?_
            refine r_aload_n g dX5_call_86 rfl ?_
            refine rm_get g hM fX5_98 rfl dX5_call_87 ?_
            refine r_topi (y := (nI (s.1 3))) hI.2.2.2.1 ?_
            refine r_aload_n g dX5_call_90 rfl ?_
            refine rm_get g hM fX5_105 rfl dX5_call_91 ?_
            refine r_topi (y := (nI (s.1 1))) hI.2.1 ?_
            refine rm_iast 13 (j := s.1 3) g hM hbm rfl (by decide) rfl rfl (show s.1 3 < 400 by omega) dX5_call_94 ?_
            intro h_11 hM
            refine r_aload_n g dX5_call_95 rfl ?_
            refine rm_get g hM fX5_38 rfl dX5_call_96 ?_
            refine r_aload_n g dX5_call_99 rfl ?_
            refine rm_get g hM fX5_98 rfl dX5_call_100 ?_
            refine r_topi (y := (nI (s.1 3))) hI.2.2.2.1 ?_
            refine r_iconst (v := 1) g dX5_call_103 (by decide) ?_
            refine rm_zast 14 (j := s.1 3) g hM hbm rfl rfl rfl (show s.1 3 < 400 by omega) rfl dX5_call_104 ?_
            intro h_12 hM
            refine r_aload_n g dX5_call_105 rfl ?_
            refine rm_get g hM fX5_44 rfl dX5_call_106 ?_
            refine r_aload_n g dX5_call_109 rfl ?_
            refine rm_get g hM fX5_98 rfl dX5_call_110 ?_
            refine r_topi (y := (nI (s.1 3))) hI.2.2.2.1 ?_
            refine r_iconst (v := (-1)) g dX5_call_113 (by decide) ?_
            refine rm_iast 16 (j := s.1 3) g hM hbm rfl (by decide) rfl rfl (show s.1 3 < 400 by omega) dX5_call_114 ?_
            intro h_13 hM
            refine r_aload_n g dX5_call_115 rfl ?_
            refine r_dup g dX5_call_116 rfl ?_
            refine rm_get g hM fX5_112 rfl dX5_call_117 ?_
            refine r_topi (y := (nI (nOp s))) hI.2.2.2.2.1 ?_
            refine r_iconst (v := 1) g dX5_call_120 (by decide) ?_
            refine r_iadd g dX5_call_121 ?_
            refine r_topi (y := (nI ((nOp s) + 1))) (nI_add (nOp s) 1) ?_
            refine rm_put (F' := upd (upd F 0 0) 17 (nI ((nOp s) + 1))) g hM hbm fX5_112 (by decide) rfl dX5_call_122 ?_
            intro h_15 hM
            refine r_aload_n g dX5_call_125 rfl ?_
            refine r_dup g dX5_call_126 rfl ?_
            refine rm_get g hM fX5_98 rfl dX5_call_127 ?_
            refine r_topi (y := (nI (s.1 3))) hI.2.2.2.1 ?_
            refine r_iconst (v := 1) g dX5_call_130 (by decide) ?_
            refine r_iadd g dX5_call_131 ?_
            refine r_topi (y := (nI ((s.1 3) + 1))) (nI_add (s.1 3) 1) ?_
            refine rm_put (F' := upd (upd (upd F 0 0) 17 (nI ((nOp s) + 1))) 10 (nI ((s.1 3) + 1))) g hM hbm fX5_98 (by decide) rfl dX5_call_132 ?_
            intro h_17 hM
            refine r_aload_n g dX5_call_135 rfl ?_
            refine rm_get g hM fX5_98 rfl dX5_call_136 ?_
            refine r_topi (y := (nI ((s.1 3) + 1))) rfl ?_
            refine r_iconst (v := 1) g dX5_call_139 (by decide) ?_
            refine r_isub g dX5_call_140 ?_
            have hfe := (inB_at (by omega) q).2
            have hte := (inB_at (by omega) q2).2
            have hs : sCall s f t = (0, nI (s.1 3), (up1 s.1 3 (s.1 3 + 1), s.2.1, fun k => if k = s.1 3 then newCall s f t else s.2.2 k)) := by unfold sCall; rw [if_neg (by rw [q, q2, decide_eq_false c19]; decide), if_neg (by rintro (z | z); exact q4 z; exact q5 z)]
            exact r_iret g hr (Nat.le_refl _) (Nat.le_refl _) dX5_call_141 (KP_i (c := 0) hM (by rw [hs]; exact MI_call hI hfe hte) rfl (by rw [hs]; rfl) (fun _ => by rw [hs]; exact nI_pred _) (SameG.up (SameG.up (SameG.up (SameG.up (SameG.up SameG.rf (by decide)) (by decide)) (by decide)) (by decide)) (by decide)))
          · skip
            have q5 : s.1 3 = 400 := (nI_c (c := 400) (by omega) (by decide)).mp c42
            refine r_iconst (v := 2) g dX5_call_45 (by decide) ?_
            refine r_goto 50 g dX5_call_46 (by decide) ?_
            refine rm_put (F' := upd F 0 2) g hM hbm fX5_88 (by decide) rfl dX5_call_50 ?_
            intro h_19 hM
            refine r_aload_n g dX5_call_53 rfl ?_
            refine rm_get g hM fX5_88 rfl dX5_call_54 ?_
            refine r_topi (y := 2) rfl ?_
            refine r_if_le 62 g dX5_call_57 (by decide) (fun c57 => absurd c57 (by decide)) (fun c57 => ?_)
            refine r_iconst (v := 0) g dX5_call_60 (by decide) ?_
            have hs : sCall s f t = (2, 0, s) := by unfold sCall; rw [if_neg (by rw [q, q2, decide_eq_false c19]; decide), if_pos (by first | exact Or.inl q4 | exact Or.inr q5)]
            exact r_iret g hr (Nat.le_refl _) (Nat.le_refl _) dX5_call_61 (KP_i (c := 2) hM (by rw [hs]; exact hI) rfl (by rw [hs]; rfl) (fun z => by rw [hs] at z; cases z) SameG.rf)
      · skip
        refine r_iconst (v := 1) g dX5_call_22 (by decide) ?_
        refine r_goto 50 g dX5_call_23 (by decide) ?_
        refine rm_put (F' := upd F 0 1) g hM hbm fX5_88 (by decide) rfl dX5_call_50 ?_
        intro h_21 hM
        refine r_aload_n g dX5_call_53 rfl ?_
        refine rm_get g hM fX5_88 rfl dX5_call_54 ?_
        refine r_topi (y := 1) rfl ?_
        refine r_if_le 62 g dX5_call_57 (by decide) (fun c57 => absurd c57 (by decide)) (fun c57 => ?_)
        refine r_iconst (v := 0) g dX5_call_60 (by decide) ?_
        have hs : sCall s f t = (1, 0, s) := by unfold sCall; rw [if_pos (by first | (rw [q]; rfl) | (rw [q, q2]; rfl) | (rw [q, q2, decide_eq_true c19]; rfl))]
        exact r_iret g hr (Nat.le_refl _) (Nat.le_refl _) dX5_call_61 (KP_i (c := 1) hM (by rw [hs]; exact hI) rfl (by rw [hs]; rfl) (fun z => by rw [hs] at z; cases z) SameG.rf)
theorem way_n {a b : Nat} (h : ¬ b ≤ a) : nI b - nI a = nI (b - a) := pk_sub (by omega)
def dist (a b : Nat) : Nat := if a < b then b - a else a - b
set_option maxHeartbeats 4000000 in
set_option maxRecDepth 100000 in
theorem ok_m_way (l : Launch) (G : Nat → ClassId) (D : va_G) (base : Nat) {h : Hp} {nx : Nat} {a b : Nat} (ha : a < 2 ^ 31) (hb : b < 2 ^ 31) : MetP l G D base miX5_way 0 0 0 [.int (nI a), .int (nI b)] h nx (Kv (.int (nI (dist a b))) h nx) := by
  refine MetP_of (by decide +kernel) rfl ?_
  intro k g hr hR hcl hcg hcd hcb hcn hnx
  subst hcl; subst hcg; subst hcd; subst hcb
  show Sf k 0 0 h nx 0 [some (.int (nI a)), some (.int (nI b))] []
  refine r_iload_n g dX5_way_0 rfl ?_
  refine r_iload_n g dX5_way_1 rfl ?_
  refine r_icmp_ge 11 g dX5_way_2 (by decide) (fun c2 => ?_) (fun c2 => ?_)
  · skip
    have q := (nI_leI hb ha).mp c2
    refine r_iload_n g dX5_way_11 rfl ?_
    refine r_iload_n g dX5_way_12 rfl ?_
    refine r_isub g dX5_way_13 ?_
    refine r_topi (y := (nI (dist a b))) (by rw [pk_sub (by omega)]; unfold dist; rw [if_neg (by omega)]) ?_
    exact r_iret g hr (Nat.le_refl _) (Nat.le_refl _) dX5_way_14 ⟨rfl, rfl, rfl⟩
  · skip
    have q : ¬ b ≤ a := fun z => c2 ((nI_leI hb ha).mpr z)
    refine r_iload_n g dX5_way_5 rfl ?_
    refine r_iload_n g dX5_way_6 rfl ?_
    refine r_isub g dX5_way_7 ?_
    refine r_topi (y := (nI (dist a b))) (by rw [pk_sub (by omega)]; unfold dist; rw [if_pos (by omega)]) ?_
    refine r_goto 14 g dX5_way_8 (by decide) ?_
    exact r_iret g hr (Nat.le_refl _) (Nat.le_refl _) dX5_way_14 ⟨rfl, rfl, rfl⟩
set_option maxHeartbeats 4000000 in
set_option maxRecDepth 100000 in
theorem ok_m_isWithin (l : Launch) (G : Nat → ClassId) (D : va_G) (base : Nat) {h : Hp} {nx m : Nat} {F : Nat → Int32} {A : Nat → Nat → Int32} {B : Nat → Int64} (s : AS) (hA : AI s) (hI : MI F A s) (hM : MO h m F A B) {c j : Nat} (hc : c < s.1 2) (hj : j < s.1 3) : MetP l G D base miX5_isWithin 1 0 0 [.ref m, .int (nI c), .int (nI j)] h nx (Kv (.int (b2 (witB s c j))) h nx) := by
  refine MetP_of (by decide +kernel) rfl ?_
  intro k g hr hR hcl hcg hcd hcb hcn hnx
  subst hcl; subst hcg; subst hcd; subst hcb
  have hM := MS.rf hM
  obtain ⟨⟨hn1, hn2⟩, ht, hnc, hN, -⟩ := id hA
  have hcc := hA.2.2.2.2.1 c hc
  have hkk := hA.2.2.2.2.2.1 j hj
  show Sf k 0 0 h nx 0 [some (.ref m), some (.int (nI c)), some (.int (nI j))] []
  refine r_aload_n g dX5_isWithin_0 rfl ?_
  refine rm_get g hM fX5_29 rfl dX5_isWithin_1 ?_
  refine r_iload_n g dX5_isWithin_4 rfl ?_
  refine rm_iald 11 (j := j) g hM rfl (by decide) rfl rfl (show j < 400 by omega) dX5_isWithin_5 ?_
  refine r_topi (y := (nI (s.2.2 j 0))) (hI.2.2.2.2.2.2.1 j (by omega)).1 ?_
  refine r_aload_n g dX5_isWithin_6 rfl ?_
  refine rm_get g hM fX5_19 rfl dX5_isWithin_7 ?_
  refine r_iload_n g dX5_isWithin_10 rfl ?_
  refine rm_iald 7 (j := c) g hM rfl (by decide) rfl rfl (show c < 4 by omega) dX5_isWithin_11 ?_
  refine r_topi (y := (nI (s.2.1 c 3))) (hI.2.2.2.2.2.1 c (by omega)).2.2.2.1 ?_
  refine r_aload_n g dX5_isWithin_12 rfl ?_
  refine rm_get g hM fX5_22 rfl dX5_isWithin_13 ?_
  refine r_iload_n g dX5_isWithin_16 rfl ?_
  refine rm_iald 8 (j := c) g hM rfl (by decide) rfl rfl (show c < 4 by omega) dX5_isWithin_17 ?_
  refine r_topi (y := (nI (s.2.1 c 4))) (hI.2.2.2.2.2.1 c (by omega)).2.2.2.2.1 ?_
  refine r_pS g kX5_91 (ok_m_isIn _ _ _ _ (nI (s.2.2 j 0)) (nI (s.2.1 c 3)) (nI (s.2.1 c 4))) rfl rfl hnx hR (by decide) (Nat.zero_le _) (Nat.zero_le _) rfl rfl dX5_isWithin_18 ?_
  refine r_topi (y := (b2 (decide (s.2.1 c 3 ≤ s.2.2 j 0 ∧ s.2.2 j 0 ≤ s.2.1 c 4)))) (by rw [dI3 (by omega) (by omega) (by omega)]) ?_
  refine r_if_eq 52 g dX5_isWithin_21 (by decide) (fun c21 => ?_) (fun c21 => ?_)
  · skip
    have q := of_decide_eq_false (b2_f c21)
    refine r_iconst (v := 0) g dX5_isWithin_52 (by decide) ?_
    exact r_zret g hr (Nat.le_refl _) (Nat.le_refl _) dX5_isWithin_53 rfl ⟨congrArg (fun z => some (Value.int z)) (by unfold witB; first | exact b2_no (fun z => q z.1) | exact b2_no (fun z => q2 z.2)), rfl, rfl⟩
  · skip
    have q := of_decide_eq_true (b2_t c21)
    refine r_aload_n g dX5_isWithin_24 rfl ?_
    refine rm_get g hM fX5_32 rfl dX5_isWithin_25 ?_
    refine r_iload_n g dX5_isWithin_28 rfl ?_
    refine rm_iald 12 (j := j) g hM rfl (by decide) rfl rfl (show j < 400 by omega) dX5_isWithin_29 ?_
    refine r_topi (y := (nI (s.2.2 j 1))) (hI.2.2.2.2.2.2.1 j (by omega)).2.1 ?_
    refine r_aload_n g dX5_isWithin_30 rfl ?_
    refine rm_get g hM fX5_19 rfl dX5_isWithin_31 ?_
    refine r_iload_n g dX5_isWithin_34 rfl ?_
    refine rm_iald 7 (j := c) g hM rfl (by decide) rfl rfl (show c < 4 by omega) dX5_isWithin_35 ?_
    refine r_topi (y := (nI (s.2.1 c 3))) (hI.2.2.2.2.2.1 c (by omega)).2.2.2.1 ?_
    refine r_aload_n g dX5_isWithin_36 rfl ?_
    refine rm_get g hM fX5_22 rfl dX5_isWithin_37 ?_
    refine r_iload_n g dX5_isWithin_40 rfl ?_
    refine rm_iald 8 (j := c) g hM rfl (by decide) rfl rfl (show c < 4 by omega) dX5_isWithin_41 ?_
    refine r_topi (y := (nI (s.2.1 c 4))) (hI.2.2.2.2.2.1 c (by omega)).2.2.2.2.1 ?_
    refine r_pS g kX5_91 (ok_m_isIn _ _ _ _ (nI (s.2.2 j 1)) (nI (s.2.1 c 3)) (nI (s.2.1 c 4))) rfl rfl hnx hR (by decide) (Nat.zero_le _) (Nat.zero_le _) rfl rfl dX5_isWithin_42 ?_
    refine r_topi (y := (b2 (decide (s.2.1 c 3 ≤ s.2.2 j 1 ∧ s.2.2 j 1 ≤ s.2.1 c 4)))) (by rw [dI3 (by omega) (by omega) (by omega)]) ?_
    refine r_if_eq 52 g dX5_isWithin_45 (by decide) (fun c45 => ?_) (fun c45 => ?_)
    · skip
      have q2 := of_decide_eq_false (b2_f c45)
      refine r_iconst (v := 0) g dX5_isWithin_52 (by decide) ?_
      exact r_zret g hr (Nat.le_refl _) (Nat.le_refl _) dX5_isWithin_53 rfl ⟨congrArg (fun z => some (Value.int z)) (by unfold witB; first | exact b2_no (fun z => q z.1) | exact b2_no (fun z => q2 z.2)), rfl, rfl⟩
    · skip
      have q2 := of_decide_eq_true (b2_t c45)
      refine r_iconst (v := 1) g dX5_isWithin_48 (by decide) ?_
      refine r_goto 53 g dX5_isWithin_49 (by decide) ?_
      exact r_zret g hr (Nat.le_refl _) (Nat.le_refl _) dX5_isWithin_53 rfl ⟨congrArg (fun z => some (Value.int z)) (by unfold witB; exact b2_of ⟨q, q2⟩), rfl, rfl⟩
theorem wgt_le {s : AS} (hA : AI s) (k : Nat) : wgt s k ≤ 13336 := by
  have := hA.2.1
  unfold wgt
  split <;> omega
theorem nI_1r (n : Nat) : nI n + nI 1 = nI (n + 1) := nI_add n 1
set_option maxHeartbeats 4000000 in
set_option maxRecDepth 100000 in
theorem ok_m_weightOf (l : Launch) (G : Nat → ClassId) (D : va_G) (base : Nat) {h : Hp} {nx m : Nat} {F : Nat → Int32} {A : Nat → Nat → Int32} {B : Nat → Int64} (s : AS) (hA : AI s) (hI : MI F A s) (hM : MO h m F A B) {j : Nat} (hj : j < s.1 3) : MetP l G D base miX5_weightOf 0 0 0 [.ref m, .int (nI j)] h nx (Kv (.int (nI (wgt s j))) h nx) := by
  refine MetP_of (by decide +kernel) rfl ?_
  intro k g hr hR hcl hcg hcd hcb hcn hnx
  subst hcl; subst hcg; subst hcd; subst hcb
  have hM := MS.rf hM
  obtain ⟨⟨hn1, hn2⟩, ht, hnc, hN, -⟩ := id hA
  have hkk := hA.2.2.2.2.2.1 j hj
  show Sf k 0 0 h nx 0 [some (.ref m), some (.int (nI j))] []
  refine r_iconst (v := 1) g dX5_weightOf_0 (by decide) ?_
  refine r_aload_n g dX5_weightOf_1 rfl ?_
  refine rm_get g hM fX5_105 rfl dX5_weightOf_2 ?_
  refine r_topi (y := (nI (s.1 1))) hI.2.1 ?_
  refine r_aload_n g dX5_weightOf_5 rfl ?_
  refine rm_get g hM fX5_35 rfl dX5_weightOf_6 ?_
  refine r_iload_n g dX5_weightOf_9 rfl ?_
  refine rm_iald 13 (j := j) g hM rfl (by decide) rfl rfl (show j < 400 by omega) dX5_weightOf_10 ?_
  refine r_topi (y := (nI (s.2.2 j 2))) (hI.2.2.2.2.2.2.1 j (by omega)).2.2.1 ?_
  refine r_isub g dX5_weightOf_11 ?_
  refine r_topi (y := (nI (s.1 1 - s.2.2 j 2))) (pk_sub (by omega)) ?_
  refine r_bipush (v := 30) g dX5_weightOf_12 (by decide) ?_
  refine r_idiv g dX5_weightOf_14 (by decide) ?_
  refine r_topi (y := (nI ((s.1 1 - s.2.2 j 2) / 30))) (pk_div (d := 30) (by omega) (by decide) (by decide)) ?_
  refine r_iadd g dX5_weightOf_15 ?_
  refine r_topi (y := (nI (1 + ((s.1 1 - s.2.2 j 2) / 30)))) (nI_add 1 ((s.1 1 - s.2.2 j 2) / 30)) ?_
  refine r_aload_n g dX5_weightOf_16 rfl ?_
  refine rm_get g hM fX5_41 rfl dX5_weightOf_17 ?_
  refine r_iload_n g dX5_weightOf_20 rfl ?_
  refine rm_zald 15 (j := j) g hM rfl rfl rfl (show j < 400 by omega) dX5_weightOf_21 ?_
  refine r_topi (y := (nI (s.2.2 j 4))) (hI.2.2.2.2.2.2.1 j (by omega)).2.2.2.2.1 ?_
  refine r_if_eq 29 g dX5_weightOf_22 (by decide) (fun c22 => ?_) (fun c22 => ?_)
  · skip
    have q := eq0 (by omega) c22
    refine r_iconst (v := 1) g dX5_weightOf_29 (by decide) ?_
    refine r_imul g dX5_weightOf_30 ?_
    refine r_topi (y := (nI (wgt s j))) (by first | exact (pk_mul _ 1).trans (by unfold wgt; rw [q]; rfl) | exact (pk_mul _ 4).trans (by unfold wgt; rw [q]; rfl)) ?_
    exact r_iret g hr (Nat.le_refl _) (Nat.le_refl _) dX5_weightOf_31 ⟨rfl, rfl, rfl⟩
  · skip
    have q := nz1 (by omega) c22
    refine r_iconst (v := 4) g dX5_weightOf_25 (by decide) ?_
    refine r_goto 30 g dX5_weightOf_26 (by decide) ?_
    refine r_imul g dX5_weightOf_30 ?_
    refine r_topi (y := (nI (wgt s j))) (by first | exact (pk_mul _ 1).trans (by unfold wgt; rw [q]; rfl) | exact (pk_mul _ 4).trans (by unfold wgt; rw [q]; rfl)) ?_
    exact r_iret g hr (Nat.le_refl _) (Nat.le_refl _) dX5_weightOf_31 ⟨rfl, rfl, rfl⟩
theorem carsZ_lt (s : AS) (k z : Nat) : ∀ n, carsZ s k z n < 2 ^ n
  | 0 => by simp [carsZ]
  | n + 1 => by
    have := carsZ_lt s k z n
    unfold carsZ
    split <;> omega
theorem or_pow {a n : Nat} (h : a < 2 ^ n) : a ||| 2 ^ n = a + 2 ^ n := by
  have := Nat.two_pow_add_eq_or_of_lt h 1
  rw [Nat.mul_one] at this
  rw [Nat.or_comm, ← this, Nat.add_comm]
theorem nI_or (a b : Nat) : nI a ||| nI b = nI (a ||| b) := by
  apply Int32.toBitVec_inj.mp
  rw [Int32.toBitVec_or]
  show BitVec.ofNat 32 a ||| BitVec.ofNat 32 b = BitVec.ofNat 32 (a ||| b)
  exact (BitVec.ofNat_or).symm
theorem shl1 : ∀ {i : Nat}, i < 31 → (1 : Int32) <<< (nI i &&& 31) = nI (2 ^ i) := by
  intro i hi
  have h : ∀ i, i < 31 → (1 : Int32) <<< (nI i &&& 31) = nI (2 ^ i) := by decide +kernel
  exact h i hi
theorem cz_1 {s : AS} {k z i : Nat} (h1 : mayB s i k = true) (h2 : s.2.1 i 5 = z) : nI (carsZ s k z i) ||| nI (2 ^ i) = nI (carsZ s k z (i + 1)) := by
  rw [nI_or, or_pow (carsZ_lt s k z i)]
  show _ = nI (_ + _)
  rw [if_pos ⟨h1, h2⟩]
theorem cz_0 {s : AS} {k z i : Nat} (h : mayB s i k = false ∨ ¬ s.2.1 i 5 = z) : carsZ s k z i = carsZ s k z (i + 1) := by
  show _ = _ + _
  rw [if_neg (fun q => h.elim (fun h => absurd (h.symm.trans q.1) (by decide)) (fun h => h q.2))]
  rfl
theorem or0 (a : Nat) : nI a ||| 0 = nI a := by rw [show (0 : Int32) = nI 0 from rfl, nI_or, Nat.or_zero]
theorem may_t {s : AS} {i k : Nat} (h1 : witB s i k = true) (h2 : s.2.2 k 5 = 4 ∨ s.2.2 k 5 = i) : mayB s i k = true := by unfold mayB; rw [h1, decide_eq_true h2]; rfl
theorem may_f {s : AS} {i k : Nat} (h : witB s i k = false ∨ ¬ (s.2.2 k 5 = 4 ∨ s.2.2 k 5 = i)) : mayB s i k = false := by
  unfold mayB
  rcases h with h | h
  · rw [h]; rfl
  · rw [decide_eq_false h, Bool.and_false]
set_option maxHeartbeats 4000000 in
set_option maxRecDepth 100000 in
theorem ok_m_carsOf (l : Launch) (G : Nat → ClassId) (D : va_G) (base : Nat) {h : Hp} {nx m : Nat} {F : Nat → Int32} {A : Nat → Nat → Int32} {B : Nat → Int64} (s : AS) (hA : AI s) (hI : MI F A s) (hM : MO h m F A B) {j : Nat} (hj : j < s.1 3) : MetP l G D base miX5_carsOf 2 0 0 [.ref m, .int (nI j)] h nx (Kv (.int (nI (carsN s j))) h nx) := by
  refine MetP_of (by decide +kernel) rfl ?_
  intro k g hr hR hcl hcg hcd hcb hcn hnx
  subst hcl; subst hcg; subst hcd; subst hcb
  have hM := MS.rf hM
  obtain ⟨⟨hn1, hn2⟩, ht, hnc, hN, -⟩ := id hA
  have hkk := hA.2.2.2.2.2.1 j hj
  show Sf k 0 0 h nx 0 [some (.ref m), some (.int (nI j)), none, none, none] []
  have hbe := hkk.2.2.2.2.2.1
  have loop : ∀ d i, i + d = s.1 2 → Sf k 0 0 h nx 7 [some (.ref m), some (.int (nI j)), some (.int (nI (carsZ s j 0 i))), some (.int (nI (carsZ s j 1 i))), some (.int (nI i))] [] := by
    intro d
    induction d with
    | zero =>
      intro i hi
      have hi2 : i = s.1 2 := by omega
      refine r_iload g dX5_carsOf_7 rfl ?_
      refine r_aload_n g dX5_carsOf_9 rfl ?_
      refine rm_get g hM fX5_95 rfl dX5_carsOf_10 ?_
      refine r_topi (y := (nI (s.1 2))) hI.2.2.1 ?_
      refine r_icmp_ge 95 g dX5_carsOf_13 (by decide) (fun c13 => ?_) (fun c13 => absurd (nI_le (by omega) (by omega)) c13)
      refine r_iload_n g dX5_carsOf_95 rfl ?_
      refine r_if_eq 103 g dX5_carsOf_96 (by decide) (fun c96 => ?_) (fun c96 => ?_)
      · skip
        have q7 : carsZ s j 0 (s.1 2) = 0 := eq0 (by have := carsZ_lt s j 0 (s.1 2); have := Nat.pow_le_pow_right (n := 2) (by decide) hnc; omega) (by rw [← hi2]; exact c96)
        refine r_iload_n g dX5_carsOf_103 rfl ?_
        exact r_iret g hr (Nat.le_refl _) (Nat.le_refl _) dX5_carsOf_104 ⟨congrArg (fun z => some (Value.int z)) (by rw [hi2]; unfold carsN; first | rw [if_pos q7] | rw [if_neg q7]), rfl, rfl⟩
      · skip
        have q7 : ¬ carsZ s j 0 (s.1 2) = 0 := fun z => c96 (by rw [hi2, z]; rfl)
        refine r_iload_n g dX5_carsOf_99 rfl ?_
        refine r_goto 104 g dX5_carsOf_100 (by decide) ?_
        exact r_iret g hr (Nat.le_refl _) (Nat.le_refl _) dX5_carsOf_104 ⟨congrArg (fun z => some (Value.int z)) (by rw [hi2]; unfold carsN; first | rw [if_pos q7] | rw [if_neg q7]), rfl, rfl⟩
    | succ d ih =>
      intro i hi
      refine r_iload g dX5_carsOf_7 rfl ?_
      refine r_aload_n g dX5_carsOf_9 rfl ?_
      refine rm_get g hM fX5_95 rfl dX5_carsOf_10 ?_
      refine r_topi (y := (nI (s.1 2))) hI.2.2.1 ?_
      refine r_icmp_ge 95 g dX5_carsOf_13 (by decide) (fun c13 => absurd c13 (nI_ge (by omega) (by omega))) (fun c13 => ?_)
      refine r_aload_n g dX5_carsOf_16 rfl ?_
      refine r_iload g dX5_carsOf_17 rfl ?_
      refine r_iload_n g dX5_carsOf_19 rfl ?_
      refine r_pV g kX5_118 (ok_m_isWithin _ _ _ _ s hA hI hM.1 (c := i) (j := j) (by omega) hj) hM.1.1 rfl rfl rfl hnx hR (by decide) (Nat.zero_le _) (Nat.zero_le _) rfl rfl dX5_carsOf_20 ?_
      refine r_if_eq 89 g dX5_carsOf_23 (by decide) (fun c23 => ?_) (fun c23 => ?_)
      · skip
        have q := b2_f c23
        refine r_iinc (v := (nI (i + 1))) g dX5_carsOf_89 rfl (nI_add i 1) rfl rfl ?_
        refine r_goto 7 g dX5_carsOf_92 (by decide) ?_
        rw [cz_0 (z := 0) (Or.inl (by first | exact q3 | exact may_f (Or.inl q))), cz_0 (z := 1) (Or.inl (by first | exact q3 | exact may_f (Or.inl q)))]
        exact ih (i + 1) (by omega)
      · skip
        have q := b2_t c23
        refine r_aload_n g dX5_carsOf_26 rfl ?_
        refine rm_get g hM fX5_44 rfl dX5_carsOf_27 ?_
        refine r_iload_n g dX5_carsOf_30 rfl ?_
        refine rm_iald 16 (j := j) g hM rfl (by decide) rfl rfl (show j < 400 by omega) dX5_carsOf_31 ?_
        refine r_topi (y := (beI (s.2.2 j 5))) (hI.2.2.2.2.2.2.1 j (by omega)).2.2.2.2.2 ?_
        refine r_iconst (v := (-1)) g dX5_carsOf_32 (by decide) ?_
        refine r_icmp_eq 47 g dX5_carsOf_33 (by decide) (fun c33 => ?_) (fun c33 => ?_)
        · skip
          have q2 := (beI_m hbe).mp c33
          have q3 := may_t q (Or.inl q2)
          refine r_iload_n g dX5_carsOf_47 rfl ?_
          refine r_aload_n g dX5_carsOf_48 rfl ?_
          refine rm_get g hM fX5_25 rfl dX5_carsOf_49 ?_
          refine r_iload g dX5_carsOf_52 rfl ?_
          refine rm_zald 9 (j := i) g hM rfl rfl rfl (show i < 4 by omega) dX5_carsOf_54 ?_
          refine r_topi (y := (nI (s.2.1 i 5))) (hI.2.2.2.2.2.1 i (by omega)).2.2.2.2.2 ?_
          have h51 := (hA.2.2.2.2.1 i (by omega)).2.2.2.2
          refine r_if_eq 62 g dX5_carsOf_55 (by decide) (fun c55 => ?_) (fun c55 => ?_)
          · skip
            have q5 := eq0 (by omega) c55
            refine r_iconst (v := 1) g dX5_carsOf_62 (by decide) ?_
            refine r_iload g dX5_carsOf_63 rfl ?_
            refine r_ishl g dX5_carsOf_65 ?_
            refine r_topi (y := (nI (2 ^ i))) (shl1 (by omega)) ?_
            refine r_ior g dX5_carsOf_66 ?_
            refine r_topi (y := (nI (carsZ s j 0 (i + 1)))) (by first | exact cz_1 q3 q5 | (rw [or0]; exact congrArg nI (cz_0 (Or.inr (by omega))))) ?_
            refine r_istore_n g dX5_carsOf_67 rfl rfl rfl ?_
            refine r_iload_n g dX5_carsOf_68 rfl ?_
            refine r_aload_n g dX5_carsOf_69 rfl ?_
            refine rm_get g hM fX5_25 rfl dX5_carsOf_70 ?_
            refine r_iload g dX5_carsOf_73 rfl ?_
            refine rm_zald 9 (j := i) g hM rfl rfl rfl (show i < 4 by omega) dX5_carsOf_75 ?_
            refine r_topi (y := (nI (s.2.1 i 5))) (hI.2.2.2.2.2.1 i (by omega)).2.2.2.2.2 ?_
            refine r_if_eq 86 g dX5_carsOf_76 (by decide) (fun c76 => ?_) (fun c76 => ?_)
            · skip
              have q6 := eq0 (by omega) c76
              refine r_iconst (v := 0) g dX5_carsOf_86 (by decide) ?_
              refine r_ior g dX5_carsOf_87 ?_
              refine r_topi (y := (nI (carsZ s j 1 (i + 1)))) (by first | exact cz_1 q3 q6 | (rw [or0]; exact congrArg nI (cz_0 (Or.inr (by omega))))) ?_
              refine r_istore_n g dX5_carsOf_88 rfl rfl rfl ?_
              refine r_iinc (v := (nI (i + 1))) g dX5_carsOf_89 rfl (nI_add i 1) rfl rfl ?_
              refine r_goto 7 g dX5_carsOf_92 (by decide) ?_
              exact ih (i + 1) (by omega)
            · skip
              have q6 := nz1 h51 c76
              refine r_iconst (v := 1) g dX5_carsOf_79 (by decide) ?_
              refine r_iload g dX5_carsOf_80 rfl ?_
              refine r_ishl g dX5_carsOf_82 ?_
              refine r_topi (y := (nI (2 ^ i))) (shl1 (by omega)) ?_
              refine r_goto 87 g dX5_carsOf_83 (by decide) ?_
              refine r_ior g dX5_carsOf_87 ?_
              refine r_topi (y := (nI (carsZ s j 1 (i + 1)))) (by first | exact cz_1 q3 q6 | (rw [or0]; exact congrArg nI (cz_0 (Or.inr (by omega))))) ?_
              refine r_istore_n g dX5_carsOf_88 rfl rfl rfl ?_
              refine r_iinc (v := (nI (i + 1))) g dX5_carsOf_89 rfl (nI_add i 1) rfl rfl ?_
              refine r_goto 7 g dX5_carsOf_92 (by decide) ?_
              exact ih (i + 1) (by omega)
          · skip
            have q5 := nz1 h51 c55
            refine r_iconst (v := 0) g dX5_carsOf_58 (by decide) ?_
            refine r_goto 66 g dX5_carsOf_59 (by decide) ?_
            refine r_ior g dX5_carsOf_66 ?_
            refine r_topi (y := (nI (carsZ s j 0 (i + 1)))) (by first | exact cz_1 q3 q5 | (rw [or0]; exact congrArg nI (cz_0 (Or.inr (by omega))))) ?_
            refine r_istore_n g dX5_carsOf_67 rfl rfl rfl ?_
            refine r_iload_n g dX5_carsOf_68 rfl ?_
            refine r_aload_n g dX5_carsOf_69 rfl ?_
            refine rm_get g hM fX5_25 rfl dX5_carsOf_70 ?_
            refine r_iload g dX5_carsOf_73 rfl ?_
            refine rm_zald 9 (j := i) g hM rfl rfl rfl (show i < 4 by omega) dX5_carsOf_75 ?_
            refine r_topi (y := (nI (s.2.1 i 5))) (hI.2.2.2.2.2.1 i (by omega)).2.2.2.2.2 ?_
            refine r_if_eq 86 g dX5_carsOf_76 (by decide) (fun c76 => ?_) (fun c76 => ?_)
            · skip
              have q6 := eq0 (by omega) c76
              refine r_iconst (v := 0) g dX5_carsOf_86 (by decide) ?_
              refine r_ior g dX5_carsOf_87 ?_
              refine r_topi (y := (nI (carsZ s j 1 (i + 1)))) (by first | exact cz_1 q3 q6 | (rw [or0]; exact congrArg nI (cz_0 (Or.inr (by omega))))) ?_
              refine r_istore_n g dX5_carsOf_88 rfl rfl rfl ?_
              refine r_iinc (v := (nI (i + 1))) g dX5_carsOf_89 rfl (nI_add i 1) rfl rfl ?_
              refine r_goto 7 g dX5_carsOf_92 (by decide) ?_
              exact ih (i + 1) (by omega)
            · skip
              have q6 := nz1 h51 c76
              refine r_iconst (v := 1) g dX5_carsOf_79 (by decide) ?_
              refine r_iload g dX5_carsOf_80 rfl ?_
              refine r_ishl g dX5_carsOf_82 ?_
              refine r_topi (y := (nI (2 ^ i))) (shl1 (by omega)) ?_
              refine r_goto 87 g dX5_carsOf_83 (by decide) ?_
              refine r_ior g dX5_carsOf_87 ?_
              refine r_topi (y := (nI (carsZ s j 1 (i + 1)))) (by first | exact cz_1 q3 q6 | (rw [or0]; exact congrArg nI (cz_0 (Or.inr (by omega))))) ?_
              refine r_istore_n g dX5_carsOf_88 rfl rfl rfl ?_
              refine r_iinc (v := (nI (i + 1))) g dX5_carsOf_89 rfl (nI_add i 1) rfl rfl ?_
              refine r_goto 7 g dX5_carsOf_92 (by decide) ?_
              exact ih (i + 1) (by omega)
        · skip
          have q2 : ¬ s.2.2 j 5 = 4 := fun z => c33 ((beI_m hbe).mpr z)
          refine r_aload_n g dX5_carsOf_36 rfl ?_
          refine rm_get g hM fX5_44 rfl dX5_carsOf_37 ?_
          refine r_iload_n g dX5_carsOf_40 rfl ?_
          refine rm_iald 16 (j := j) g hM rfl (by decide) rfl rfl (show j < 400 by omega) dX5_carsOf_41 ?_
          refine r_topi (y := (beI (s.2.2 j 5))) (hI.2.2.2.2.2.2.1 j (by omega)).2.2.2.2.2 ?_
          refine r_iload g dX5_carsOf_42 rfl ?_
          refine r_icmp_ne 89 g dX5_carsOf_44 (by decide) (fun c44 => ?_) (fun c44 => ?_)
          · skip
            have q3 := may_f (i := i) (Or.inr (fun z => z.elim q2 (fun z => c44 ((beI_c hbe (by omega)).mpr z))))
            refine r_iinc (v := (nI (i + 1))) g dX5_carsOf_89 rfl (nI_add i 1) rfl rfl ?_
            refine r_goto 7 g dX5_carsOf_92 (by decide) ?_
            rw [cz_0 (z := 0) (Or.inl (by first | exact q3 | exact may_f (Or.inl q))), cz_0 (z := 1) (Or.inl (by first | exact q3 | exact may_f (Or.inl q)))]
            exact ih (i + 1) (by omega)
          · skip
            have q3 := may_t q (Or.inr ((beI_c hbe (by omega)).mp c44))
            refine r_iload_n g dX5_carsOf_47 rfl ?_
            refine r_aload_n g dX5_carsOf_48 rfl ?_
            refine rm_get g hM fX5_25 rfl dX5_carsOf_49 ?_
            refine r_iload g dX5_carsOf_52 rfl ?_
            refine rm_zald 9 (j := i) g hM rfl rfl rfl (show i < 4 by omega) dX5_carsOf_54 ?_
            refine r_topi (y := (nI (s.2.1 i 5))) (hI.2.2.2.2.2.1 i (by omega)).2.2.2.2.2 ?_
            have h51 := (hA.2.2.2.2.1 i (by omega)).2.2.2.2
            refine r_if_eq 62 g dX5_carsOf_55 (by decide) (fun c55 => ?_) (fun c55 => ?_)
            · skip
              have q5 := eq0 (by omega) c55
              refine r_iconst (v := 1) g dX5_carsOf_62 (by decide) ?_
              refine r_iload g dX5_carsOf_63 rfl ?_
              refine r_ishl g dX5_carsOf_65 ?_
              refine r_topi (y := (nI (2 ^ i))) (shl1 (by omega)) ?_
              refine r_ior g dX5_carsOf_66 ?_
              refine r_topi (y := (nI (carsZ s j 0 (i + 1)))) (by first | exact cz_1 q3 q5 | (rw [or0]; exact congrArg nI (cz_0 (Or.inr (by omega))))) ?_
              refine r_istore_n g dX5_carsOf_67 rfl rfl rfl ?_
              refine r_iload_n g dX5_carsOf_68 rfl ?_
              refine r_aload_n g dX5_carsOf_69 rfl ?_
              refine rm_get g hM fX5_25 rfl dX5_carsOf_70 ?_
              refine r_iload g dX5_carsOf_73 rfl ?_
              refine rm_zald 9 (j := i) g hM rfl rfl rfl (show i < 4 by omega) dX5_carsOf_75 ?_
              refine r_topi (y := (nI (s.2.1 i 5))) (hI.2.2.2.2.2.1 i (by omega)).2.2.2.2.2 ?_
              refine r_if_eq 86 g dX5_carsOf_76 (by decide) (fun c76 => ?_) (fun c76 => ?_)
              · skip
                have q6 := eq0 (by omega) c76
                refine r_iconst (v := 0) g dX5_carsOf_86 (by decide) ?_
                refine r_ior g dX5_carsOf_87 ?_
                refine r_topi (y := (nI (carsZ s j 1 (i + 1)))) (by first | exact cz_1 q3 q6 | (rw [or0]; exact congrArg nI (cz_0 (Or.inr (by omega))))) ?_
                refine r_istore_n g dX5_carsOf_88 rfl rfl rfl ?_
                refine r_iinc (v := (nI (i + 1))) g dX5_carsOf_89 rfl (nI_add i 1) rfl rfl ?_
                refine r_goto 7 g dX5_carsOf_92 (by decide) ?_
                exact ih (i + 1) (by omega)
              · skip
                have q6 := nz1 h51 c76
                refine r_iconst (v := 1) g dX5_carsOf_79 (by decide) ?_
                refine r_iload g dX5_carsOf_80 rfl ?_
                refine r_ishl g dX5_carsOf_82 ?_
                refine r_topi (y := (nI (2 ^ i))) (shl1 (by omega)) ?_
                refine r_goto 87 g dX5_carsOf_83 (by decide) ?_
                refine r_ior g dX5_carsOf_87 ?_
                refine r_topi (y := (nI (carsZ s j 1 (i + 1)))) (by first | exact cz_1 q3 q6 | (rw [or0]; exact congrArg nI (cz_0 (Or.inr (by omega))))) ?_
                refine r_istore_n g dX5_carsOf_88 rfl rfl rfl ?_
                refine r_iinc (v := (nI (i + 1))) g dX5_carsOf_89 rfl (nI_add i 1) rfl rfl ?_
                refine r_goto 7 g dX5_carsOf_92 (by decide) ?_
                exact ih (i + 1) (by omega)
            · skip
              have q5 := nz1 h51 c55
              refine r_iconst (v := 0) g dX5_carsOf_58 (by decide) ?_
              refine r_goto 66 g dX5_carsOf_59 (by decide) ?_
              refine r_ior g dX5_carsOf_66 ?_
              refine r_topi (y := (nI (carsZ s j 0 (i + 1)))) (by first | exact cz_1 q3 q5 | (rw [or0]; exact congrArg nI (cz_0 (Or.inr (by omega))))) ?_
              refine r_istore_n g dX5_carsOf_67 rfl rfl rfl ?_
              refine r_iload_n g dX5_carsOf_68 rfl ?_
              refine r_aload_n g dX5_carsOf_69 rfl ?_
              refine rm_get g hM fX5_25 rfl dX5_carsOf_70 ?_
              refine r_iload g dX5_carsOf_73 rfl ?_
              refine rm_zald 9 (j := i) g hM rfl rfl rfl (show i < 4 by omega) dX5_carsOf_75 ?_
              refine r_topi (y := (nI (s.2.1 i 5))) (hI.2.2.2.2.2.1 i (by omega)).2.2.2.2.2 ?_
              refine r_if_eq 86 g dX5_carsOf_76 (by decide) (fun c76 => ?_) (fun c76 => ?_)
              · skip
                have q6 := eq0 (by omega) c76
                refine r_iconst (v := 0) g dX5_carsOf_86 (by decide) ?_
                refine r_ior g dX5_carsOf_87 ?_
                refine r_topi (y := (nI (carsZ s j 1 (i + 1)))) (by first | exact cz_1 q3 q6 | (rw [or0]; exact congrArg nI (cz_0 (Or.inr (by omega))))) ?_
                refine r_istore_n g dX5_carsOf_88 rfl rfl rfl ?_
                refine r_iinc (v := (nI (i + 1))) g dX5_carsOf_89 rfl (nI_add i 1) rfl rfl ?_
                refine r_goto 7 g dX5_carsOf_92 (by decide) ?_
                exact ih (i + 1) (by omega)
              · skip
                have q6 := nz1 h51 c76
                refine r_iconst (v := 1) g dX5_carsOf_79 (by decide) ?_
                refine r_iload g dX5_carsOf_80 rfl ?_
                refine r_ishl g dX5_carsOf_82 ?_
                refine r_topi (y := (nI (2 ^ i))) (shl1 (by omega)) ?_
                refine r_goto 87 g dX5_carsOf_83 (by decide) ?_
                refine r_ior g dX5_carsOf_87 ?_
                refine r_topi (y := (nI (carsZ s j 1 (i + 1)))) (by first | exact cz_1 q3 q6 | (rw [or0]; exact congrArg nI (cz_0 (Or.inr (by omega))))) ?_
                refine r_istore_n g dX5_carsOf_88 rfl rfl rfl ?_
                refine r_iinc (v := (nI (i + 1))) g dX5_carsOf_89 rfl (nI_add i 1) rfl rfl ?_
                refine r_goto 7 g dX5_carsOf_92 (by decide) ?_
                exact ih (i + 1) (by omega)
  refine r_iconst (v := 0) g dX5_carsOf_0 (by decide) ?_
  refine r_istore_n g dX5_carsOf_1 rfl rfl rfl ?_
  refine r_iconst (v := 0) g dX5_carsOf_2 (by decide) ?_
  refine r_istore_n g dX5_carsOf_3 rfl rfl rfl ?_
  refine r_iconst (v := 0) g dX5_carsOf_4 (by decide) ?_
  refine r_istore g dX5_carsOf_5 rfl rfl rfl ?_
  exact loop (s.1 2) 0 (by omega)
set_option maxHeartbeats 4000000 in
set_option maxRecDepth 100000 in
theorem ok_m_open (l : Launch) (G : Nat → ClassId) (D : va_G) (base : Nat) {h : Hp} {nx m : Nat} {F : Nat → Int32} {A : Nat → Nat → Int32} {B : Nat → Int64} (s : AS) (hA : AI s) (hI : MI F A s) (hM : MO h m F A B) (hbm : base ≤ m) : MetP l G D base miX5_open 0 0 0 [.ref m] h nx (KP h nx m A B false (0, nI (nOp s), s)) := by
  refine MetP_of (by decide +kernel) rfl ?_
  intro k g hr hR hcl hcg hcd hcb hcn hnx
  subst hcl; subst hcg; subst hcd; subst hcb
  have hM := MS.rf hM
  obtain ⟨⟨hn1, hn2⟩, ht, hnc, hN, -, -, hop6, -⟩ := id hA
  show Sf k 0 0 h nx 0 [some (.ref m)] []
  refine r_aload_n g dX5_open_0 rfl ?_
  refine r_iconst (v := 0) g dX5_open_1 (by decide) ?_
  refine rm_put (F' := upd F 0 0) g hM hbm fX5_88 (by decide) rfl dX5_open_2 ?_
  intro h_2 hM
  refine r_aload_n g dX5_open_5 rfl ?_
  refine rm_get g hM fX5_112 rfl dX5_open_6 ?_
  refine r_topi (y := (nI (nOp s))) hI.2.2.2.2.1 ?_
  exact r_iret g hr (Nat.le_refl _) (Nat.le_refl _) dX5_open_9 (KP_i (r := (0, nI (nOp s), s)) (c := 0) hM hI rfl rfl (fun _ => rfl) SameG.rf)
set_option maxHeartbeats 4000000 in
set_option maxRecDepth 100000 in
theorem ok_m_weight (l : Launch) (G : Nat → ClassId) (D : va_G) (base : Nat) {h : Hp} {nx m : Nat} {F : Nat → Int32} {A : Nat → Nat → Int32} {B : Nat → Int64} (s : AS) (hA : AI s) (hI : MI F A s) (hM : MO h m F A B) (hbm : base ≤ m) (x : Int32) : MetP l G D base miX5_weight 3 0 0 [.ref m, .int x] h nx (KP h nx m A B false ((sWeight s x).1, (sWeight s x).2, s)) := by
  refine MetP_of (by decide +kernel) rfl ?_
  intro k g hr hR hcl hcg hcd hcb hcn hnx
  subst hcl; subst hcg; subst hcd; subst hcb
  have hM := MS.rf hM
  obtain ⟨⟨hn1, hn2⟩, ht, hnc, hN, -⟩ := id hA
  show Sf k 0 0 h nx 0 [some (.ref m), some (.int x)] []
  refine r_aload_n g dX5_weight_0 rfl ?_
  refine r_aload_n g dX5_weight_1 rfl ?_
  refine r_iload_n g dX5_weight_2 rfl ?_
  refine r_pV g kX5_115 (ok_m_isOpenCall _ _ _ _ s hA hI hM.1 x) hM.1.1 rfl rfl rfl hnx hR (by decide) (Nat.zero_le _) (Nat.zero_le _) rfl rfl dX5_weight_3 ?_
  refine r_if_eq 13 g dX5_weight_6 (by decide) (fun c6 => ?_) (fun c6 => ?_)
  · skip
    have q := b2_f c6
    refine r_iconst (v := 1) g dX5_weight_13 (by decide) ?_
    refine rm_put (F' := upd F 0 1) g hM hbm fX5_88 (by decide) rfl dX5_weight_14 ?_
    intro h_2 hM
    refine r_aload_n g dX5_weight_17 rfl ?_
    refine rm_get g hM fX5_88 rfl dX5_weight_18 ?_
    refine r_topi (y := 1) rfl ?_
    refine r_if_le 28 g dX5_weight_21 (by decide) (fun c21 => absurd c21 (by decide)) (fun c21 => ?_)
    refine r_iconst (v := 0) g dX5_weight_24 (by decide) ?_
    refine r_goto 33 g dX5_weight_25 (by decide) ?_
    have hs : sWeight s x = (1, 0) := by unfold sWeight; rw [if_pos q]
    exact r_iret g hr (Nat.le_refl _) (Nat.le_refl _) dX5_weight_33 (KP_i (c := 1) hM hI rfl (by rw [hs]; rfl) (fun z => by rw [hs] at z; cases z) SameG.rf)
  · skip
    have q := b2_t c6
    refine r_iconst (v := 0) g dX5_weight_9 (by decide) ?_
    refine r_goto 14 g dX5_weight_10 (by decide) ?_
    refine rm_put (F' := upd F 0 0) g hM hbm fX5_88 (by decide) rfl dX5_weight_14 ?_
    intro h_4 hM
    refine r_aload_n g dX5_weight_17 rfl ?_
    refine rm_get g hM fX5_88 rfl dX5_weight_18 ?_
    refine r_topi (y := 0) rfl ?_
    refine r_if_le 28 g dX5_weight_21 (by decide) (fun c21 => ?_) (fun c21 => absurd c21 (by decide))
    have hci := opB_at hA q
    refine r_aload_n g dX5_weight_28 rfl ?_
    refine r_iload_n g dX5_weight_29 rfl ?_
    refine r_topi (y := (nI (iN x))) hci.2.1 ?_
    refine r_pV g kX5_126 (ok_m_weightOf _ _ _ _ s hA (hI.F0 0) hM.1 (j := iN x) hci.1) hM.1.1 rfl rfl rfl hnx hR (by decide) (Nat.zero_le _) (Nat.zero_le _) rfl rfl dX5_weight_30 ?_
    have hs : sWeight s x = (0, nI (wgt s (iN x))) := by unfold sWeight; rw [if_neg (by rw [q]; decide)]
    exact r_iret g hr (Nat.le_refl _) (Nat.le_refl _) dX5_weight_33 (KP_i (c := 0) hM hI rfl (by rw [hs]; rfl) (fun _ => by rw [hs]) SameG.rf)
set_option maxHeartbeats 4000000 in
set_option maxRecDepth 100000 in
theorem ok_m_cars (l : Launch) (G : Nat → ClassId) (D : va_G) (base : Nat) {h : Hp} {nx m : Nat} {F : Nat → Int32} {A : Nat → Nat → Int32} {B : Nat → Int64} (s : AS) (hA : AI s) (hI : MI F A s) (hM : MO h m F A B) (hbm : base ≤ m) (x : Int32) : MetP l G D base miX5_cars 3 0 0 [.ref m, .int x] h nx (KP h nx m A B false ((sCars s x).1, (sCars s x).2, s)) := by
  refine MetP_of (by decide +kernel) rfl ?_
  intro k g hr hR hcl hcg hcd hcb hcn hnx
  subst hcl; subst hcg; subst hcd; subst hcb
  have hM := MS.rf hM
  obtain ⟨⟨hn1, hn2⟩, ht, hnc, hN, -⟩ := id hA
  show Sf k 0 0 h nx 0 [some (.ref m), some (.int x)] []
  refine r_aload_n g dX5_cars_0 rfl ?_
  refine r_aload_n g dX5_cars_1 rfl ?_
  refine r_iload_n g dX5_cars_2 rfl ?_
  refine r_pV g kX5_115 (ok_m_isOpenCall _ _ _ _ s hA hI hM.1 x) hM.1.1 rfl rfl rfl hnx hR (by decide) (Nat.zero_le _) (Nat.zero_le _) rfl rfl dX5_cars_3 ?_
  refine r_if_eq 13 g dX5_cars_6 (by decide) (fun c6 => ?_) (fun c6 => ?_)
  · skip
    have q := b2_f c6
    refine r_iconst (v := 1) g dX5_cars_13 (by decide) ?_
    refine rm_put (F' := upd F 0 1) g hM hbm fX5_88 (by decide) rfl dX5_cars_14 ?_
    intro h_2 hM
    refine r_aload_n g dX5_cars_17 rfl ?_
    refine rm_get g hM fX5_88 rfl dX5_cars_18 ?_
    refine r_topi (y := 1) rfl ?_
    refine r_if_le 28 g dX5_cars_21 (by decide) (fun c21 => absurd c21 (by decide)) (fun c21 => ?_)
    refine r_iconst (v := 0) g dX5_cars_24 (by decide) ?_
    refine r_goto 33 g dX5_cars_25 (by decide) ?_
    have hs : sCars s x = (1, 0) := by unfold sCars; rw [if_pos q]
    exact r_iret g hr (Nat.le_refl _) (Nat.le_refl _) dX5_cars_33 (KP_i (c := 1) hM hI rfl (by rw [hs]; rfl) (fun z => by rw [hs] at z; cases z) SameG.rf)
  · skip
    have q := b2_t c6
    refine r_iconst (v := 0) g dX5_cars_9 (by decide) ?_
    refine r_goto 14 g dX5_cars_10 (by decide) ?_
    refine rm_put (F' := upd F 0 0) g hM hbm fX5_88 (by decide) rfl dX5_cars_14 ?_
    intro h_4 hM
    refine r_aload_n g dX5_cars_17 rfl ?_
    refine rm_get g hM fX5_88 rfl dX5_cars_18 ?_
    refine r_topi (y := 0) rfl ?_
    refine r_if_le 28 g dX5_cars_21 (by decide) (fun c21 => ?_) (fun c21 => absurd c21 (by decide))
    have hci := opB_at hA q
    refine r_aload_n g dX5_cars_28 rfl ?_
    refine r_iload_n g dX5_cars_29 rfl ?_
    refine r_topi (y := (nI (iN x))) hci.2.1 ?_
    refine r_pV g kX5_142 (ok_m_carsOf _ _ _ _ s hA (hI.F0 0) hM.1 (j := iN x) hci.1) hM.1.1 rfl rfl rfl hnx hR (by decide) (Nat.zero_le _) (Nat.zero_le _) rfl rfl dX5_cars_30 ?_
    have hs : sCars s x = (0, nI (carsN s (iN x))) := by unfold sCars; rw [if_neg (by rw [q]; decide)]
    exact r_iret g hr (Nat.le_refl _) (Nat.le_refl _) dX5_cars_33 (KP_i (c := 0) hM hI rfl (by rw [hs]; rfl) (fun _ => by rw [hs]) SameG.rf)
theorem left_1 {p : Nat → Bool} {i : Nat} (h : p i = true) : nI (cnt p i) + 1 = nI (cnt p (i + 1)) := by
  show _ = nI (_ + _)
  rw [if_pos h]
  exact nI_1 _
theorem left_0 {p : Nat → Bool} {i : Nat} (h : p i = false) : nI (cnt p i) + 0 = nI (cnt p (i + 1)) := by
  show _ = nI (_ + _)
  rw [if_neg (by rw [h]; decide)]
  exact nI_add _ 0
def leftB (s : AS) (k : Nat) : Bool := isOp s k && decide (carsN s k = 0)
theorem leftB_t {s : AS} {k : Nat} (h : s.2.2 k 3 = 1) (h2 : carsN s k = 0) : leftB s k = true := by unfold leftB isOp; rw [decide_eq_true h, decide_eq_true h2]; rfl
theorem leftB_f {s : AS} {k : Nat} (h : ¬ s.2.2 k 3 = 1 ∨ ¬ carsN s k = 0) : leftB s k = false := by
  unfold leftB isOp
  rcases h with h | h
  · rw [decide_eq_false h]; rfl
  · rw [decide_eq_false h, Bool.and_false]
theorem carsN_lt {s : AS} (hA : AI s) (k : Nat) : carsN s k < 16 := by
  have h0 := carsZ_lt s k 0 (s.1 2)
  have h1 := carsZ_lt s k 1 (s.1 2)
  have := Nat.pow_le_pow_right (n := 2) (by decide) hA.2.2.1
  unfold carsN
  split <;> omega
set_option maxHeartbeats 4000000 in
set_option maxRecDepth 100000 in
theorem ok_m_left (l : Launch) (G : Nat → ClassId) (D : va_G) (base : Nat) {h0 : Hp} {nx m : Nat} {F : Nat → Int32} {A : Nat → Nat → Int32} {B : Nat → Int64} (s : AS) (hA : AI s) (hI : MI F A s) (hM : MO h0 m F A B) (hbm : base ≤ m) : MetP l G D base miX5_left 3 0 0 [.ref m] h0 nx (KP h0 nx m A B false (0, nI (leftN s), s)) := by
  refine MetP_of (by decide +kernel) rfl ?_
  intro k g hr hR hcl hcg hcd hcb hcn hnx
  subst hcl; subst hcg; subst hcd; subst hcb
  have hM := MS.rf hM
  obtain ⟨h, hh⟩ : ∃ z, z = h0 := ⟨_, rfl⟩
  rw [← hh]
  have hM : MS h0 h m F A B := by rw [hh]; exact hM
  obtain ⟨⟨hn1, hn2⟩, ht, hnc, hN, -⟩ := id hA
  show Sf k 0 0 h nx 0 [some (.ref m), none, none] []
  have loop : ∀ h, MS h0 h m (upd F 0 0) A B → ∀ d i, i + d = s.1 3 → Sf k 0 0 h nx 9 [some (.ref m), some (.int (nI (cnt (leftB s) i))), some (.int (nI i))] [] := by
    intro h hM d
    induction d with
    | zero =>
      intro i hi
      have hi2 : i = s.1 3 := by omega
      refine r_iload_n g dX5_left_9 rfl ?_
      refine r_aload_n g dX5_left_10 rfl ?_
      refine rm_get g hM fX5_98 rfl dX5_left_11 ?_
      refine r_topi (y := (nI (s.1 3))) hI.2.2.2.1 ?_
      refine r_icmp_ge 48 g dX5_left_14 (by decide) (fun c14 => ?_) (fun c14 => absurd (nI_le (by omega) (by omega)) c14)
      refine r_iload_n g dX5_left_48 rfl ?_
      exact r_iret g hr (Nat.le_refl _) (Nat.le_refl _) dX5_left_49 (KP_i (r := (0, nI (leftN s), s)) (c := 0) hM hI rfl rfl (fun _ => by rw [hi2]; rfl) SameG.rf)
    | succ d ih =>
      intro i hi
      have hkk := hA.2.2.2.2.2.1 i (by omega)
      refine r_iload_n g dX5_left_9 rfl ?_
      refine r_aload_n g dX5_left_10 rfl ?_
      refine rm_get g hM fX5_98 rfl dX5_left_11 ?_
      refine r_topi (y := (nI (s.1 3))) hI.2.2.2.1 ?_
      refine r_icmp_ge 48 g dX5_left_14 (by decide) (fun c14 => absurd c14 (nI_ge (by omega) (by omega))) (fun c14 => ?_)
      refine r_iload_n g dX5_left_17 rfl ?_
      refine r_aload_n g dX5_left_18 rfl ?_
      refine rm_get g hM fX5_38 rfl dX5_left_19 ?_
      refine r_iload_n g dX5_left_22 rfl ?_
      refine rm_zald 14 (j := i) g hM rfl rfl rfl (show i < 400 by omega) dX5_left_23 ?_
      refine r_topi (y := (nI (s.2.2 i 3))) (hI.2.2.2.2.2.2.1 i (by omega)).2.2.2.1 ?_
      refine r_if_eq 39 g dX5_left_24 (by decide) (fun c24 => ?_) (fun c24 => ?_)
      · skip
        have q := eq0 (by omega) c24
        have q3 := leftB_f (s := s) (k := i) (Or.inl (by omega))
        refine r_iconst (v := 0) g dX5_left_39 (by decide) ?_
        refine r_iadd g dX5_left_40 ?_
        refine r_topi (y := (nI (cnt (leftB s) (i + 1)))) (by first | exact left_1 q3 | exact left_0 q3) ?_
        refine r_istore_n g dX5_left_41 rfl rfl rfl ?_
        refine r_iinc (v := (nI (i + 1))) g dX5_left_42 rfl (nI_add i 1) rfl rfl ?_
        refine r_goto 9 g dX5_left_45 (by decide) ?_
        exact ih (i + 1) (by omega)
      · skip
        have q := nz1 (by omega) c24
        refine r_aload_n g dX5_left_27 rfl ?_
        refine r_iload_n g dX5_left_28 rfl ?_
        refine r_pV g kX5_142 (ok_m_carsOf _ _ _ _ s hA (hI.F0 0) hM.1 (j := i) (by omega)) hM.1.1 rfl rfl rfl hnx hR (by decide) (Nat.zero_le _) (Nat.zero_le _) rfl rfl dX5_left_29 ?_
        refine r_if_ne 39 g dX5_left_32 (by decide) (fun c32 => ?_) (fun c32 => ?_)
        · skip
          have q3 := leftB_f (s := s) (k := i) (Or.inr (fun z => c32 (by rw [z]; rfl)))
          refine r_iconst (v := 0) g dX5_left_39 (by decide) ?_
          refine r_iadd g dX5_left_40 ?_
          refine r_topi (y := (nI (cnt (leftB s) (i + 1)))) (by first | exact left_1 q3 | exact left_0 q3) ?_
          refine r_istore_n g dX5_left_41 rfl rfl rfl ?_
          refine r_iinc (v := (nI (i + 1))) g dX5_left_42 rfl (nI_add i 1) rfl rfl ?_
          refine r_goto 9 g dX5_left_45 (by decide) ?_
          exact ih (i + 1) (by omega)
        · skip
          have q2 := eq0 (by have := carsN_lt hA i; omega) c32
          have q3 := leftB_t q q2
          refine r_iconst (v := 1) g dX5_left_35 (by decide) ?_
          refine r_goto 40 g dX5_left_36 (by decide) ?_
          refine r_iadd g dX5_left_40 ?_
          refine r_topi (y := (nI (cnt (leftB s) (i + 1)))) (by first | exact left_1 q3 | exact left_0 q3) ?_
          refine r_istore_n g dX5_left_41 rfl rfl rfl ?_
          refine r_iinc (v := (nI (i + 1))) g dX5_left_42 rfl (nI_add i 1) rfl rfl ?_
          refine r_goto 9 g dX5_left_45 (by decide) ?_
          exact ih (i + 1) (by omega)
  refine r_aload_n g dX5_left_0 rfl ?_
  refine r_iconst (v := 0) g dX5_left_1 (by decide) ?_
  refine rm_put (F' := upd F 0 0) g hM hbm fX5_88 (by decide) rfl dX5_left_2 ?_
  intro h_2 hM
  refine r_iconst (v := 0) g dX5_left_5 (by decide) ?_
  refine r_istore_n g dX5_left_6 rfl rfl rfl ?_
  refine r_iconst (v := 0) g dX5_left_7 (by decide) ?_
  refine r_istore_n g dX5_left_8 rfl rfl rfl ?_
  exact loop _ hM (s.1 3) 0 (by omega)
