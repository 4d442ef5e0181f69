theorem gk_idx {s : AS} {j : Nat} (h : (gL s).idxOf j < gn s) : gk s ((gL s).idxOf j) = j := by
  unfold gk
  rw [List.getD_eq_getElem?_getD, List.getElem?_eq_getElem h]
  exact List.getElem_idxOf h
theorem idx_gk {s : AS} {i : Nat} (h : i < gn s) : (gL s).idxOf (gk s i) = i := by
  have h1 : (gL s).idxOf (gk s i) < gn s := List.idxOf_lt_length_of_mem (gk_mem h)
  exact gk_inj h1 h (gk_idx h1)
/-- the cars below c have been told -/
def IG (s : AS) (c : Nat) (A : Nat → Nat → Int32) : Prop :=
  (∀ c9, c9 < c → A 23 c9 = nI (gRow s c9).length ∧ ∀ i, i < (gRow s c9).length → A 22 (6 * c9 + i) = nI (gk s ((gRow s c9).getD i 0))) ∧
  (∀ i, i < gn s → (gd s).getD i 0 < c → A 18 (gk s i) = nI ((gd s).getD i 0) ∧ A 19 (gk s i) = nI (gE s ((gd s).getD i 0) i).1 ∧ A 20 (gk s i) = nI (gE s ((gd s).getD i 0) i).2 ∧ A 21 (gk s i) = nI (gw s i)) ∧
  ∀ j, j < 400 → (∀ i, i < gn s → (gd s).getD i 0 < c → j ≠ gk s i) → A 18 j = -1
theorem IG_end {s : AS} (hA : AI s) {A : Nat → Nat → Int32} (h : IG s 4 A) : MG A (gres s) := by
  obtain ⟨h1, h2, h3⟩ := h
  refine ⟨fun j hj => ?_, fun c hc => ⟨(h1 c hc).1, gRow_len6 hA c, (h1 c hc).2⟩⟩
  by_cases hi : (gL s).idxOf j < gn s
  · have e := gk_idx hi
    have hd := gd_at hA hi
    have hnc := hA.2.2.1
    have h9 := h2 _ hi (by omega)
    rw [e] at h9
    have e0 : (gres s).1 j 0 = (gd s).getD ((gL s).idxOf j) 0 := if_pos hi
    have e1 : (gres s).1 j 1 = (gE s ((gd s).getD ((gL s).idxOf j) 0) ((gL s).idxOf j)).1 := if_pos hi
    have e2 : (gres s).1 j 2 = (gE s ((gd s).getD ((gL s).idxOf j) 0) ((gL s).idxOf j)).2 := if_pos hi
    have e3 : (gres s).1 j 3 = gw s ((gL s).idxOf j) := if_pos hi
    rw [e0, e1, e2, e3]
    exact ⟨h9.1.trans (if_neg (by omega)).symm, by omega, fun _ => h9.2⟩
  · have e0 : (gres s).1 j 0 = 4 := if_neg hi
    rw [e0]
    refine ⟨h3 j hj (fun i h4 h5 e => hi ?_), Nat.le_refl _, fun z => absurd rfl z⟩
    rw [e, idx_gk h4]
    exact h4
theorem IG_none {s : AS} (hA : AI s) {c : Nat} (hc : ¬ c < s.1 2) {A : Nat → Nat → Int32} (h : IG s c A) : IG s (c + 1) (upA A 23 (upd (A 23) c 0)) := by
  obtain ⟨h1, h2, h3⟩ := h
  have he : gRow s c = [] := if_neg hc
  refine ⟨fun c9 h9 => ?_, fun i hi hd => h2 i hi (by have := (gd_at hA hi).1; omega), fun j hj hd => h3 j hj (fun i hi h9 => hd i hi (by omega))⟩
  by_cases e : c9 = c
  · subst e
    rw [he]
    exact ⟨pk_us, fun i hi => absurd hi (Nat.not_lt_zero _)⟩
  · exact ⟨(pk_un e).trans (h1 c9 (by omega)).1, (h1 c9 (by omega)).2⟩
theorem IG_car {s : AS} (hA : AI s) {c : Nat} (hc : c < s.1 2) {A A2 A3 : Nat → Nat → Int32} (h : IG s c A) (h2 : ∀ kf, kf ≠ 23 → kf ≠ 29 → A2 kf = A kf) (h23 : ∀ q, q ≠ c → A2 23 q = A 23 q) (hW : Wr A2 A3 s c (gRow s c) (gRow s c).length) : IG s (c + 1) (upA A3 23 (upd (A3 23) c (nI (gRow s c).length))) := by
  obtain ⟨i1, i2, i3⟩ := h
  obtain ⟨w1, w2, w3, w4⟩ := hW
  have hnotin : ∀ j, (∀ i, i < gn s → (gd s).getD i 0 = c → j ≠ gk s i) → ∀ q, q < (gRow s c).length → j ≠ gk s ((gRow s c).getD q 0) := by
    intro j hj q hq
    have hm := (gRow_mem hA hc).mp (mem_getD hq)
    exact hj _ hm.1 hm.2
  have hl6 := gRow_len6 hA c
  refine ⟨fun c9 h9 => ?_, fun i hi hd => ?_, fun j hj hd => ?_⟩
  · by_cases e : c9 = c
    · subst e
      exact ⟨pk_us, fun i hi => (w2 i hi).2.2.2.2⟩
    · have i9 := i1 c9 (by omega)
      have hl9 := gRow_len6 hA c9
      refine ⟨(pk_un e).trans ((congrFun (w1 23 (by decide)) c9).trans ((h23 c9 e).trans i9.1)), fun i hi => ?_⟩
      exact (w4 _ (by omega)).trans ((congrFun (h2 22 (by decide) (by decide)) _).trans (i9.2 i hi))
  · by_cases e : (gd s).getD i 0 = c
    · have hm : i ∈ gRow s c := (gRow_mem hA hc).mpr ⟨hi, e⟩
      obtain ⟨q, hq, hqi⟩ := List.getElem_of_mem hm
      have hqi2 : (gRow s c).getD q 0 = i := by rw [List.getD_eq_getElem?_getD, List.getElem?_eq_getElem hq, hqi]; rfl
      have w := w2 q hq
      rw [hqi2] at w
      rw [e]
      exact ⟨w.1, w.2.1, w.2.2.1, w.2.2.2.1⟩
    · have i9 := i2 i hi (by omega)
      have w := w3 (gk s i) (hnotin _ (fun i9 hi9 hd9 z => e (by rw [gk_inj hi hi9 z]; exact hd9)))
      refine ⟨w.1.trans ((congrFun (h2 18 (by decide) (by decide)) _).trans i9.1), w.2.1.trans ((congrFun (h2 19 (by decide) (by decide)) _).trans i9.2.1), w.2.2.1.trans ((congrFun (h2 20 (by decide) (by decide)) _).trans i9.2.2.1), w.2.2.2.trans ((congrFun (h2 21 (by decide) (by decide)) _).trans i9.2.2.2)⟩
  · have w := w3 j (hnotin _ (fun i9 hi9 hd9 => hd i9 hi9 (by omega)))
    exact w.1.trans ((congrFun (h2 18 (by decide) (by decide)) _).trans (i3 j hj (fun i hi h9 => hd i hi (by omega))))
def KG (h0 : Hp) (nx m : Nat) (s : AS) : Option Value → Hp → Nat → Prop := fun v h' nx' => v = some (.long (lN (gsum s))) ∧ nx = nx' ∧ ∃ F' A' B', MS h0 h' m F' A' B' ∧ MI F' A' s ∧ F' 0 = 0 ∧ MG A' (gres s)
theorem Rp_congr {A A2 : Nat → Nat → Int32} {B : Nat → Int64} {t : Nat} {a : Option (Nat × List Nat)} (h : A2 28 = A 28) : Rp A2 B t a ↔ Rp A B t a := by
  unfold Rp
  rw [h]
set_option maxHeartbeats 4000000 in
set_option maxRecDepth 100000 in
theorem give_G {k : Cx} {h0 : Hp} {nx m : Nat} {s : AS} (hA : AI s) (g : Gd k miX5_give.1.cls miX5_give.2.1) (hr : RetK k (some .long) 0 0 (KG h0 nx m s)) (hR : RmK k 5 0 0) (hbm : cBase k ≤ m) (hnx : cBase k ≤ nx) {F : Nat → Int32} (hF0 : F 0 = 0) {B : Nat → Int64} : ∀ (e c : Nat) (A : Nat → Nat → Int32) (h : Hp), MS h0 h m F A B → c + e = 4 → P1 F A s → (∀ c, c < s.1 2 → Rp A B (64 * c + setO (gd s) c (gn s)) (gbest s c (setO (gd s) c (gn s)))) → (∀ i, i < gn s → A 30 i = nI ((gd s).getD i 0)) → IG s c A → Sf k 0 0 h nx 303 [some (.ref m), none, none, some (.long (lN (gsum s))), none, some (.int (nI c)), none, none, none, none] [] := by
  obtain ⟨⟨hn1, hn2⟩, ht, hnc, hN, -⟩ := id hA
  have hg6 := gn_le hA
  intro e
  induction e with
  | zero =>
    intro c A h hM hc hP hB hD hG
    have hc4 : c = 4 := by omega
    subst hc4
    refine r_iload g dX5_give_303 rfl ?_
    refine r_iconst (v := 4) g dX5_give_305 (by decide) ?_
    refine r_icmp_ge 444 g dX5_give_306 (by decide) (fun c306 => ?_) (fun c306 => absurd (show (4 : Int32) ≤ nI 4 by decide) c306)
    refine r_lload_n g dX5_give_444 rfl ?_
    exact r_lret g hr (Nat.le_refl _) (Nat.le_refl _) dX5_give_445 ⟨rfl, rfl, F, A, B, hM, hP.1, hF0, IG_end hA hG⟩
  | succ e ih =>
    intro c A h hM hc hP hB hD hG
    have hd4 : ∀ i, i < gn s → (gd s).getD i 0 < 4 := fun i hi => Nat.lt_of_lt_of_le (gd_at hA hi).1 hnc
    have car : c < s.1 2 → ∀ h, MS h0 h m F (upA A 23 (upd (A 23) c 0)) B → Sf k 0 0 h nx 326 [some (.ref m), none, none, some (.long (lN (gsum s))), none, some (.int (nI c)), none, none, none, none] [] := by
      intro hcn h hM
      have hgr := gRow_len hA hcn
      have hl6 := gRow_len6 hA c
      have hso := setO_gn s (gd s) c
      have hso64 : setO (gd s) c (gn s) < 64 := Nat.lt_of_lt_of_le hso (Nat.pow_le_pow_right (n := 2) (by decide) hg6)
      obtain ⟨gb1, -, -, -⟩ := gbest_at hA hcn hso
      have hrow : gRow s c = grow s c (setO (gd s) c (gn s)) := if_pos hcn
      have hb9 := hB c hcn
      rw [gb1, ← hrow] at hb9
      have loopI : ∀ e i (f : Nat → Int32) (h : Hp), MS h0 h m F (upA (upA A 23 (upd (A 23) c 0)) 29 f) B → i + e = (gRow s c).length → (∀ q, q < i → f q = nI ((gRow s c).getD q 0)) → Sf k 0 0 h nx 386 [some (.ref m), none, none, some (.long (lN (gsum s))), none, some (.int (nI c)), some (.int (nI (64 * c + setO (gd s) c (gn s)))), some (.int (nI ((gRow s c).length))), some (.int (nI i)), none] [] := by
        intro e2
        induction e2 with
        | zero =>
          intro i f h hM hi hf
          refine r_iload g dX5_give_386 rfl ?_
          refine r_iload g dX5_give_388 rfl ?_
          refine r_icmp_ge 419 g dX5_give_390 (by decide) (fun c390 => ?_) (fun c390 => absurd (nI_le (by omega) (by omega)) c390)
          refine r_aload_n g dX5_give_419 rfl ?_
          refine r_iload g dX5_give_420 rfl ?_
          refine r_iload g dX5_give_422 rfl ?_
          refine r_iconst (v := 1) g dX5_give_424 (by decide) ?_
          refine r_callV g kX5_135 (ok_m_sumOf1 _ _ _ _ s hA (hP.congr (fun kf hk => by rw [upA_ne (by omega), upA_ne (by omega)])) hcn (p := gRow s c) hl6 (fun q hq => ⟨hf q (by omega), ((gRow_mem hA hcn).mp (mem_getD hq)).1⟩) (gRow_nd hA hcn) hM.1 hbm) hM.1.1 rfl rfl rfl hnx hR (by decide) (Nat.zero_le _) (Nat.zero_le _) rfl rfl dX5_give_425 ?_
          rintro v9 h_1 nx9 ⟨⟨z9, rfl⟩, rfl, A3, hM9, hW9⟩ -
          have hM := hM.then hM9
          refine r_pop2 g dX5_give_428 rfl ?_
          refine r_aload_n g dX5_give_429 rfl ?_
          refine rm_get g hM fX5_62 rfl dX5_give_430 ?_
          refine r_iload g dX5_give_433 rfl ?_
          refine r_iload g dX5_give_435 rfl ?_
          refine rm_iast 23 (j := c) g hM hbm rfl (by decide) rfl rfl (show c < 4 by omega) dX5_give_437 ?_
          intro h_2 hM
          refine r_iinc (v := (nI (c + 1))) g dX5_give_438 rfl (nI_add c 1) rfl rfl ?_
          refine r_goto 303 g dX5_give_441 (by decide) ?_
          refine r_le (ls2 := [some (.ref m), none, none, some (.long (lN (gsum s))), none, some (.int (nI (c + 1))), none, none, none, none]) ⟨rfl, rfl, rfl, trivial⟩ ?_
          have w1 := hW9.1
          exact ih (c + 1) _ _ hM (by omega) (hP.congr (fun kf hk => by rw [upA_ne (by omega), w1 kf (by omega), upA_ne (by omega), upA_ne (by omega)])) (fun c9 hc9 => (Rp_congr (by rw [upA_ne (by decide), w1 28 (by decide), upA_ne (by decide), upA_ne (by decide)])).mpr (hB c9 hc9)) (fun i2 hi2 => by rw [upA_ne (by decide), w1 30 (by decide), upA_ne (by decide), upA_ne (by decide)]; exact hD i2 hi2) (IG_car hA hcn hG (fun kf h1 h2 => by rw [upA_ne h2, upA_ne h1]) (fun q hq => by rw [upA_ne (by decide), upA_eq, pk_un hq]) hW9)
        | succ e2 ih2 =>
          intro i f h hM hi hf
          refine r_iload g dX5_give_386 rfl ?_
          refine r_iload g dX5_give_388 rfl ?_
          refine r_icmp_ge 419 g dX5_give_390 (by decide) (fun c390 => absurd c390 (nI_ge (by omega) (by omega))) (fun c390 => ?_)
          refine r_aload_n g dX5_give_393 rfl ?_
          refine rm_get g hM fX5_78 rfl dX5_give_394 ?_
          refine r_iload g dX5_give_397 rfl ?_
          refine r_aload_n g dX5_give_399 rfl ?_
          refine rm_get g hM fX5_75 rfl dX5_give_400 ?_
          refine r_bipush (v := 6) g dX5_give_403 (by decide) ?_
          refine r_iload g dX5_give_405 rfl ?_
          refine r_imul g dX5_give_407 ?_
          refine r_topi (y := (nI (6 * (64 * c + setO (gd s) c (gn s))))) (pk_mul 6 (64 * c + setO (gd s) c (gn s))) ?_
          refine r_iload g dX5_give_408 rfl ?_
          refine r_iadd g dX5_give_410 ?_
          refine r_topi (y := (nI ((6 * (64 * c + setO (gd s) c (gn s))) + i))) (nI_add (6 * (64 * c + setO (gd s) c (gn s))) i) ?_
          refine rm_iald 28 (j := (6 * (64 * c + setO (gd s) c (gn s))) + i) g hM rfl (by decide) rfl rfl (show 6 * (64 * c + setO (gd s) c (gn s)) + i < 1536 by omega) dX5_give_411 ?_
          refine r_topi (y := (nI ((gRow s c).getD i 0))) (hb9.2.2 i (by show i < (gRow s c).length; omega)) ?_
          refine rm_iast 29 (j := i) g hM hbm rfl (by decide) rfl rfl (show i < 6 by omega) dX5_give_412 ?_
          intro h_3 hM
          refine r_iinc (v := (nI (i + 1))) g dX5_give_413 rfl (nI_add i 1) rfl rfl ?_
          refine r_goto 386 g dX5_give_416 (by decide) ?_
          simp only [upA_upA, upA_eq] at hM
          refine ih2 (i + 1) _ _ hM (by omega) (fun q hq => ?_)
          by_cases e9 : q = i
          · subst e9; exact pk_us
          · exact (pk_un e9).trans (hf q (by omega))
      have loopH : ∀ e i, i + e = gn s → Sf k 0 0 h nx 346 [some (.ref m), none, none, some (.long (lN (gsum s))), none, some (.int (nI c)), some (.int (nI (64 * c + setO (gd s) c (gn s)))), some (.int (nI (cnt (fun i => decide ((gd s).getD i 0 = c)) i))), some (.int (nI i)), none] [] := by
        intro e2
        induction e2 with
        | zero =>
          intro i hi
          have hi2 : i = gn s := by omega
          rw [hi2, ← hgr]
          refine r_iload g dX5_give_346 rfl ?_
          refine r_aload_n g dX5_give_348 rfl ?_
          refine rm_get g hM fX5_130 rfl dX5_give_349 ?_
          refine r_topi (y := (nI (gn s))) hP.2.1 ?_
          refine r_icmp_ge 383 g dX5_give_352 (by decide) (fun c352 => ?_) (fun c352 => absurd (nI_le (Nat.le_refl _) (by omega)) c352)
          refine r_iconst (v := 0) g dX5_give_383 (by decide) ?_
          refine r_istore g dX5_give_384 rfl rfl rfl ?_
          exact loopI (gRow s c).length 0 _ h (by rw [upA_self]; exact hM) (Nat.zero_add _) (fun q hq => absurd hq (Nat.not_lt_zero _))
        | succ e2 ih2 =>
          intro i hi
          have hd9 := hd4 i (by omega)
          refine r_iload g dX5_give_346 rfl ?_
          refine r_aload_n g dX5_give_348 rfl ?_
          refine rm_get g hM fX5_130 rfl dX5_give_349 ?_
          refine r_topi (y := (nI (gn s))) hP.2.1 ?_
          refine r_icmp_ge 383 g dX5_give_352 (by decide) (fun c352 => absurd c352 (nI_ge (by omega) (by omega))) (fun c352 => ?_)
          refine r_iload g dX5_give_355 rfl ?_
          refine r_aload_n g dX5_give_357 rfl ?_
          refine rm_get g hM fX5_81 rfl dX5_give_358 ?_
          refine r_iload g dX5_give_361 rfl ?_
          refine rm_iald 30 (j := i) g hM rfl (by decide) rfl rfl (show i < 6 by omega) dX5_give_363 ?_
          refine r_topi (y := (nI ((gd s).getD i 0))) (hD i (by omega)) ?_
          refine r_iload g dX5_give_364 rfl ?_
          refine r_icmp_ne 373 g dX5_give_366 (by decide) (fun c366 => ?_) (fun c366 => ?_)
          · skip
            have q := decide_eq_false (p := (gd s).getD i 0 = c) (fun z => c366 (by rw [z]))
            refine r_iconst (v := 0) g dX5_give_373 (by decide) ?_
            refine r_iadd g dX5_give_374 ?_
            refine r_topi (y := (nI (cnt (fun i => decide ((gd s).getD i 0 = c)) (i + 1)))) (by first | exact left_1 (p := fun i => decide ((gd s).getD i 0 = c)) q | exact left_0 (p := fun i => decide ((gd s).getD i 0 = c)) q) ?_
            refine r_istore g dX5_give_375 rfl rfl rfl ?_
            refine r_iinc (v := (nI (i + 1))) g dX5_give_377 rfl (nI_add i 1) rfl rfl ?_
            refine r_goto 346 g dX5_give_380 (by decide) ?_
            exact ih2 (i + 1) (by omega)
          · skip
            have q := decide_eq_true (p := (gd s).getD i 0 = c) ((nI_c (by omega) (by omega)).mp c366)
            refine r_iconst (v := 1) g dX5_give_369 (by decide) ?_
            refine r_goto 374 g dX5_give_370 (by decide) ?_
            refine r_iadd g dX5_give_374 ?_
            refine r_topi (y := (nI (cnt (fun i => decide ((gd s).getD i 0 = c)) (i + 1)))) (by first | exact left_1 (p := fun i => decide ((gd s).getD i 0 = c)) q | exact left_0 (p := fun i => decide ((gd s).getD i 0 = c)) q) ?_
            refine r_istore g dX5_give_375 rfl rfl rfl ?_
            refine r_iinc (v := (nI (i + 1))) g dX5_give_377 rfl (nI_add i 1) rfl rfl ?_
            refine r_goto 346 g dX5_give_380 (by decide) ?_
            exact ih2 (i + 1) (by omega)
      refine r_bipush (v := 64) g dX5_give_326 (by decide) ?_
      refine r_iload g dX5_give_328 rfl ?_
      refine r_imul g dX5_give_330 ?_
      refine r_topi (y := (nI (64 * c))) (pk_mul 64 c) ?_
      refine r_aload_n g dX5_give_331 rfl ?_
      refine r_iload g dX5_give_332 rfl ?_
      refine r_pV g kX5_153 (ok_m_setOf _ _ _ _ hM.1 (n := gn s) (c := c) (d := gd s) hP.2.1 hg6 (by omega) (fun i hi => ⟨hD i hi, hd4 i hi⟩)) hM.1.1 rfl rfl rfl hnx hR (by decide) (Nat.zero_le _) (Nat.zero_le _) rfl rfl dX5_give_334 ?_
      refine r_iadd g dX5_give_337 ?_
      refine r_topi (y := (nI ((64 * c) + (setO (gd s) c (gn s))))) (nI_add (64 * c) (setO (gd s) c (gn s))) ?_
      refine r_istore g dX5_give_338 rfl rfl rfl ?_
      refine r_iconst (v := 0) g dX5_give_340 (by decide) ?_
      refine r_istore g dX5_give_341 rfl rfl rfl ?_
      refine r_iconst (v := 0) g dX5_give_343 (by decide) ?_
      refine r_istore g dX5_give_344 rfl rfl rfl ?_
      exact loopH (gn s) 0 (Nat.zero_add _)
    refine r_iload g dX5_give_303 rfl ?_
    refine r_iconst (v := 4) g dX5_give_305 (by decide) ?_
    refine r_icmp_ge 444 g dX5_give_306 (by decide) (fun c306 => absurd c306 (nI_ge (b := 4) (by omega) (by decide))) (fun c306 => ?_)
    refine r_aload_n g dX5_give_309 rfl ?_
    refine rm_get g hM fX5_62 rfl dX5_give_310 ?_
    refine r_iload g dX5_give_313 rfl ?_
    refine r_iconst (v := 0) g dX5_give_315 (by decide) ?_
    refine rm_iast 23 (j := c) g hM hbm rfl (by decide) rfl rfl (show c < 4 by omega) dX5_give_316 ?_
    intro h_4 hM
    refine r_iload g dX5_give_317 rfl ?_
    refine r_aload_n g dX5_give_319 rfl ?_
    refine rm_get g hM fX5_95 rfl dX5_give_320 ?_
    refine r_topi (y := (nI (s.1 2))) hP.1.2.2.1 ?_
    refine r_icmp_ge 438 g dX5_give_323 (by decide) (fun c323 => ?_) (fun c323 => ?_)
    · skip
      have q : ¬ c < s.1 2 := fun z => absurd c323 (nI_ge z (by omega))
      refine r_iinc (v := (nI (c + 1))) g dX5_give_438 rfl (nI_add c 1) rfl rfl ?_
      refine r_goto 303 g dX5_give_441 (by decide) ?_
      exact ih (c + 1) _ _ hM (by omega) (hP.congr (fun kf hk => by rw [upA_ne (by omega)])) (fun c9 hc9 => (Rp_congr (by rw [upA_ne (by decide)])).mpr (hB c9 hc9)) (fun i2 hi2 => by rw [upA_ne (by decide)]; exact hD i2 hi2) (IG_none hA q hG)
    · skip
      have q : c < s.1 2 := Nat.lt_of_not_le (fun z => c323 (nI_le z (by omega)))
      exact car q _ hM
