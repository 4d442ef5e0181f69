/-! 44: the law: its loop, its beginning -/
theorem and31 (x : Int32) : ∃ n : Nat, n < 32 ∧ x &&& 31 = nI n := by
  refine ⟨(x &&& 31).toBitVec.toNat, ?_, ?_⟩
  · rw [show (x &&& 31).toBitVec = x.toBitVec &&& 31#32 from rfl, BitVec.toNat_and]
    exact Nat.lt_of_le_of_lt Nat.and_le_right (by decide)
  · apply Int32.toBitVec_inj.mp
    show _ = BitVec.ofNat 32 _
    simp
theorem head_cmp {L i : Nat} (hL : L ≤ 2049) (hi : i ≤ 5000) : nI L - 4 < nI i ↔ L < i + 4 := by
  have h4 : (nI L - 4).toInt = (L : Int) - 4 := by
    rw [Int32.toInt_sub, nI_toInt (by omega), show (4 : Int32).toInt = 4 from rfl]
    exact Int.bmod_eq_of_le (by omega) (by omega)
  rw [Int32.lt_iff_toInt_lt, h4, nI_toInt (by omega)]
  omega
theorem CI.ext0 {h h' : Hp} {x lo lo' nx nx' : Nat} {s : AS} {r : GR} (hCI : CI h x lo nx s r) (h2 : s.1 2 = 0) (h0 : nOp s = 0) (hq : ∀ q, x ≤ q → q < x + 17 → h' q = h q) (hlo : x + 17 ≤ lo') (hnx : lo' ≤ nx') : CI h' x lo' nx' s r := by
  obtain ⟨la, ra, cs, C, Lz, GA, hB, hLo, hCs, hG, hGL, h60⟩ := hCI
  exact ⟨la, ra, cs, C, Lz, GA, ⟨(hq _ (by omega) (by omega)).trans hB.1, (hq _ (by omega) (by omega)).trans hB.2.1, (hq _ (by omega) (by omega)).trans hB.2.2.1, fun c hc => absurd hc (by omega), fun i hi => absurd hi (by omega)⟩, ⟨hlo, hnx, fun c hc => absurd hc (by omega), fun c c' _ hc => absurd hc (by omega), fun i hi => absurd hi (by omega), fun i j _ hj => absurd hj (by omega), fun c i hc => absurd hc (by omega)⟩, hCs, ⟨(hq _ (by omega) (by omega)).trans hG.1, fun kf hk => (hq _ (by have := goff_rng hk; omega) (by have := goff_rng hk; omega)).trans (hG.2 kf hk)⟩, hGL, h60⟩
set_option maxHeartbeats 4000000 in
set_option maxRecDepth 100000 in
theorem law_step {k : Cx} {b L : Nat} {xs : Nat → Int32} (g : Gd k RL cL_law) (hx : XS k b L xs) (hL : L ≤ 2049) (hR : RmK k 2000 601024 7293000) (hl : (cL k).stackTraces = false) {x i c0 s0 : Nat} (hbx : cBase k ≤ x) (hi9 : i ≤ 5000) (hc0 : c0 ≤ 60 + i) (hs0 : s0 ≤ 7000 + 228 * i) {s : AS} {r : GR} {h : Hp} {nx : Nat} (hnx : cBase k ≤ nx) (hLI : LI h nx x s r)
    (hend : ∀ (h : Hp) (nx c s9 : Nat) (ls : List (Option Value)), c ≤ 601024 → s9 ≤ 7293000 → Sf k c s9 h nx 1088 ls [.int 1])
    (hnext : i + 3 < L → ∀ (s : AS) (r : GR) (h : Hp) (nx c s9 : Nat), LI h nx x s r → cBase k ≤ nx → c ≤ c0 + 4 → s9 ≤ s0 + 909 → Sf k c s9 h nx 1081 [some (.ref b), some (.ref x), some (.ref (x + 17)), some (.ref (x + 42)), some (.int (nI i)), none, none] []) :
    Sf k c0 s0 h nx 33 [some (.ref b), some (.ref x), some (.ref (x + 17)), some (.ref (x + 42)), some (.int (nI i)), none, none] [] := by
  refine r_iload g dL_law_33 rfl ?_
  refine r_aload_n g dL_law_35 rfl ?_
  refine r_slen g hx dL_law_36 ?_
  refine r_iconst (v := 4) g dL_law_37 (by decide) ?_
  refine r_isub g dL_law_38 ?_
  refine r_icmp_gt 1087 g dL_law_39 (by decide) (fun c39 => ?_) (fun c39 => ?_)
  · refine r_iconst (v := 1) g dL_law_1087 (by decide) ?_
    exact hend _ _ _ _ _ (by omega) (by omega)
  · have hi : i + 3 < L := by
      have := mt (head_cmp hL hi9).mpr c39
      omega
    have hn := hnext hi
    refine r_aload_n g dL_law_42 rfl ?_
    refine r_iload g dL_law_43 rfl ?_
    refine r_sld (j := i) g hx rfl (by omega) (by omega) dL_law_45 ?_
    refine r_bipush (v := 31) g dL_law_46 (by decide) ?_
    refine r_iand g dL_law_48 ?_
    obtain ⟨n, hn32, en⟩ := and31 (xs i)
    refine r_topi en ?_
    clear en
    match n, hn32 with
    | 0, _ => exact r_tswI 132 g dL_law_49 (by decide) (by decide) rfl (by decide) (law_car g hx hL hR hl hbx (by omega) (by omega) hi hnx hLI hn)
    | 1, _ => exact r_tswI 200 g dL_law_49 (by decide) (by decide) rfl (by decide) (law_free g hx hL hR hl hbx (by omega) (by omega) hi hnx hLI hn)
    | 2, _ => exact r_tswI 260 g dL_law_49 (by decide) (by decide) rfl (by decide) (law_zone g hx hL hR hl hbx (by omega) (by omega) hi hnx hLI hn)
    | 3, _ => exact r_tswI 320 g dL_law_49 (by decide) (by decide) rfl (by decide) (law_sleep g hx hL hR hl hbx (by omega) (by omega) hi hnx hLI hn)
    | 4, _ => exact r_tswI 411 g dL_law_49 (by decide) (by decide) rfl (by decide) (law_call g hx hL hR hl hbx (by omega) (by omega) hi hnx hLI hn)
    | 5, _ => exact r_tswI 479 g dL_law_49 (by decide) (by decide) rfl (by decide) (law_urgent g hx hL hR hl hbx (by omega) (by omega) hi hnx hLI hn)
    | 6, _ => exact r_tswI 570 g dL_law_49 (by decide) (by decide) rfl (by decide) (law_begin g hx hL hR hl hbx (by omega) (by omega) hi hnx hLI hn)
    | 7, _ => exact r_tswI 645 g dL_law_49 (by decide) (by decide) rfl (by decide) (law_done g hx hL hR hl hbx (by omega) (by omega) hi hnx hLI hn)
    | 8, _ => exact r_tswI 681 g dL_law_49 (by decide) (by decide) rfl (by decide) (law_pass g hx hL hR hl hbx (by omega) (by omega) hi hnx hLI hn)
    | 9, _ => exact r_tswI 737 g dL_law_49 (by decide) (by decide) rfl (by decide) (law_give g hx hL hR hl hbx (by omega) (by omega) hi hnx hLI hn)
    | 10, _ => exact r_tswI 751 g dL_law_49 (by decide) (by decide) rfl (by decide) (law_carOf g hx hL hR hl hbx (by omega) (by omega) hi hnx hLI hn)
    | 11, _ => exact r_tswI 807 g dL_law_49 (by decide) (by decide) rfl (by decide) (law_turn g hx hL hR hl hbx (by omega) (by omega) hi hnx hLI hn)
    | 12, _ => exact r_tswI 875 g dL_law_49 (by decide) (by decide) rfl (by decide) (law_told g hx hL hR hl hbx (by omega) (by omega) hi hnx hLI hn)
    | 13, _ => exact r_tswI 943 g dL_law_49 (by decide) (by decide) rfl (by decide) (law_left g hx hL hR hl hbx (by omega) (by omega) hi hnx hLI hn)
    | 14, _ => exact r_tswI 956 g dL_law_49 (by decide) (by decide) rfl (by decide) (law_cars g hx hL hR hl hbx (by omega) (by omega) hi hnx hLI hn)
    | 15, _ => exact r_tswI 1012 g dL_law_49 (by decide) (by decide) rfl (by decide) (law_open g hx hL hR hl hbx (by omega) (by omega) hi hnx hLI hn)
    | 16, _ => exact r_tswI 1025 g dL_law_49 (by decide) (by decide) rfl (by decide) (law_weight g hx hL hR hl hbx (by omega) (by omega) hi hnx hLI hn)
    | n + 17, h17 => exact r_tswO 1081 g dL_law_49 (Or.inr (by rw [nI_toInt (by omega)]; omega)) (by decide) (hn s r h nx _ _ hLI hnx (by omega) (by omega))
set_option maxHeartbeats 4000000 in
set_option maxRecDepth 100000 in
theorem law_loop {k : Cx} {b L : Nat} {xs : Nat → Int32} (g : Gd k RL cL_law) (hx : XS k b L xs) (hL : L ≤ 2049) (hR : RmK k 2000 601024 7293000) (hl : (cL k).stackTraces = false) {x : Nat} (hbx : cBase k ≤ x)
    (hend : ∀ (h : Hp) (nx c s9 : Nat) (ls : List (Option Value)), c ≤ 601024 → s9 ≤ 7293000 → Sf k c s9 h nx 1088 ls [.int 1]) :
    ∀ (n i c0 s0 : Nat) (s : AS) (r : GR) (h : Hp) (nx : Nat), L ≤ i + n → i ≤ L + 4 → c0 ≤ 60 + i → s0 ≤ 7000 + 228 * i → cBase k ≤ nx → LI h nx x s r → Sf k c0 s0 h nx 33 [some (.ref b), some (.ref x), some (.ref (x + 17)), some (.ref (x + 42)), some (.int (nI i)), none, none] [] := by
  intro n
  induction n with
  | zero =>
    intro i c0 s0 s r h nx h1 h2 h3 h4 hnx hLI
    exact law_step g hx hL hR hl hbx (by omega) h3 h4 hnx hLI hend (fun q => absurd q (by omega))
  | succ n ih =>
    intro i c0 s0 s r h nx h1 h2 h3 h4 hnx hLI
    refine law_step g hx hL hR hl hbx (by omega) h3 h4 hnx hLI hend (fun q s2 r2 h2' nx2 c2 s9 hLI2 hnx2 hc2 hs2 => ?_)
    refine r_iinc (v := nI (i + 4)) g dL_law_1081 rfl (nI_add i 4) rfl rfl ?_
    refine r_goto 33 g dL_law_1084 (by decide) ?_
    exact ih (i + 4) c2 s9 s2 r2 h2' nx2 (by omega) (by omega) (by omega) (by omega) hnx2 hLI2
set_option maxHeartbeats 4000000 in
set_option maxRecDepth 100000 in
theorem law_body {k : Cx} {b L : Nat} {xs : Nat → Int32} (g : Gd k RL cL_law) (hx : XS k b L xs) (hL : L ≤ 2049) (hR : RmK k 2000 601024 7293000) (hl : (cL k).stackTraces = false)
    (hend : ∀ (h : Hp) (nx c s9 : Nat) (ls : List (Option Value)), c ≤ 601024 → s9 ≤ 7293000 → Sf k c s9 h nx 1088 ls [.int 1]) {h : Hp} :
    Sf k 0 0 h (cBase k) 0 [some (.ref b), none, none, none, none, none, none] [] := by
  have hRc : 601024 ≤ (cRoom k).cells := hR.2.2.1
  have hRs : 7293000 ≤ (cRoom k).slots := hR.2.2.2
  obtain ⟨x, ex⟩ : ∃ x, cBase k = x := ⟨_, rfl⟩
  have hbx : cBase k ≤ x := Nat.le_of_eq ex
  rw [ex]
  refine r_new1 (ci := 4) g nL_8 rfl tyX4 tyX4_ok dF4_ok (by omega) (by omega) dL_law_0 ?_
  intro hf h1 hU1
  refine r_dup g dL_law_3 rfl ?_
  refine r_aload_n g dL_law_4 rfl ?_
  refine r_iconst (v := 0) g dL_law_5 (by decide) ?_
  refine r_callSx g hx kL_61 (ok_l_cell _ _ _ _ hL) rfl rfl (by omega) hR (by decide) (by omega) (by omega) rfl rfl dL_law_6 ?_
  rintro v9 h9 nx9 ⟨rfl, rfl, rfl⟩ -
  refine r_callI g kL_67 (ok_i_class _ _ _ _ (x := x) hU1.1 hbx (x0 L xs)) rfl rfl rfl (by omega) hR (by decide) (by omega) (by omega) rfl rfl dL_law_9 ?_
  rintro v9 h2 nx2 ⟨rfl, rfl, hC, hq2⟩ -
  refine r_astore_n g dL_law_12 rfl rfl rfl ?_
  refine r_new1 (ci := 5) g nL_69 rfl tyX5 tyX5_ok dF5_ok (by omega) (by omega) dL_law_13 ?_
  intro hf3 h3 hU3
  refine r_dup g dL_law_16 rfl ?_
  refine r_aload_n g dL_law_17 rfl ?_
  refine r_iconst (v := 0) g dL_law_18 (by decide) ?_
  refine r_callSx g hx kL_61 (ok_l_cell _ _ _ _ hL) rfl rfl (by omega) hR (by decide) (by omega) (by omega) rfl rfl dL_law_19 ?_
  rintro v9 h9 nx9 ⟨rfl, rfl, rfl⟩ -
  refine r_callI g kL_71 (ok_i_model _ _ _ _ (m := x + 17) hU3.1 (by omega) (x0 L xs)) rfl rfl rfl (by omega) hR (by decide) (by omega) (by omega) rfl rfl dL_law_22 ?_
  rintro v9 h4 nx4 ⟨rfl, rfl, ⟨F, A, B, hM, hI, hMG⟩, hq4⟩ -
  refine r_astore_n g dL_law_25 rfl rfl rfl ?_
  refine r_iconst (v := 1) g dL_law_26 (by decide) ?_
  refine r_newaJ (N := 1) g rfl (by decide) (by omega) (by omega) dL_law_27 (fun hf5 => ?_)
  refine r_astore_n g dL_law_29 rfl rfl rfl ?_
  refine r_iconst (v := 1) g dL_law_30 (by decide) ?_
  refine r_istore g dL_law_31 rfl rfl rfl ?_
  have ho : hpU h4 (x + 17 + 25) (eJ 1 fun _ => 0) (x + 42) = some (eJ 1 fun _ => 0) := hpU_eq _ _ _
  have hC5 : CI (hpU h4 (x + 17 + 25) (eJ 1 fun _ => 0)) x (x + 43) (x + 17 + 25 + 1) (s0F (x0 L xs)) r0 := (hC (x + 17) (x + 17) (Nat.le_refl _) (Nat.le_refl _)).ext0 rfl rfl (fun q h5 h6 => (hpU_ne (by omega)).trans ((hq4 q (by omega)).trans (hU3.2 q (by omega)))) (by omega) (by omega)
  exact law_loop g hx hL hR hl hbx hend L 1 _ _ (s0F (x0 L xs)) r0 _ _ (by omega) (by omega) (by omega) (by omega) (by omega) ⟨s0_AI _, hC5, fun _ _ => rfl, ⟨F, A, B, hM.fr (fun q h5 h6 => hpU_ne (by omega)), hI, hMG⟩, _, ho⟩
