/-! 31: the class's calls that only tell -/
def KCp (a : Nat × Int32) (h : Hp) (nx : Nat) : Option Value → Hp → Nat → Prop := fun v h' nx' => a.1 = 0 ∧ v = some (.int a.2) ∧ h = h' ∧ nx = nx'
def KXp (a : Nat × Int32) : String → Prop := fun E => a.1 = 1 ∧ E = eIA
theorem GLr.at {r : GR} {C : Int32} {GA : Nat → Nat → Int32} (hG : GLr r C GA) : ∃ n, n ≤ 6 ∧ C = nI n ∧ ∀ q, q < 400 → ∀ y : Int32, ((y = -1 ∧ ∀ i, i < n → GA 8 i ≠ nI q) ∨ ∃ i, i < n ∧ GA 8 i = nI q ∧ y = nI i) → (y = -1 ∧ r.1 q 0 = 4) ∨ ∃ i, i < n ∧ y = nI i ∧ r.1 q 0 < 4 ∧ GA 3 i = nI (r.1 q 0) ∧ GA 4 i = nI (r.1 q 1) ∧ GA 5 i = nI (r.1 q 2) ∧ GA 2 i = nI (r.1 q 3) := by
  obtain ⟨n, hn, hC, hnd, hk, -, -⟩ := hG
  refine ⟨n, hn, hC, fun q hq y hy => ?_⟩
  rcases hk q hq with ⟨h1, h2⟩ | ⟨i, hi, h1, h2⟩
  · rcases hy with ⟨h3, -⟩ | ⟨i, hi, h3, -⟩
    · exact Or.inl ⟨h3, h1⟩
    · exact absurd h3 (h2 i hi)
  · rcases hy with ⟨-, h4⟩ | ⟨j, hj, h3, h4⟩
    · exact absurd h1 (h4 i hi)
    · have e := hnd i j hi hj (h1.trans h3.symm)
      subst e
      exact Or.inr ⟨i, hi, h4, h2⟩
theorem GLr.row {r : GR} {C : Int32} {GA : Nat → Nat → Int32} (hG : GLr r C GA) {c j : Nat} (hc : c < 4) : (if j < 6 then GA 11 (c * 6 + j) else -1) = if j < r.2.2 c then nI (r.2.1 c j) else -1 := by
  obtain ⟨n, hn, hC, hnd, hk, hr, hl⟩ := hG
  by_cases h : j < 6
  · rw [if_pos h, hr c j hc h]
  · rw [if_neg h, if_neg (by have := hl c hc; omega)]
theorem m1_ne {i : Nat} (h : i < 2 ^ 31) : nI i ≠ -1 := fun z => absurd (congrArg Int32.toInt z) (by rw [nI_toInt h]; show ((i : Nat) : Int) ≠ -1; omega)

set_option maxHeartbeats 4000000 in
set_option maxRecDepth 100000 in
theorem ok_c_cars (l : Launch) (G : Nat → ClassId) (D : va_G) (base : Nat) (hl : l.stackTraces = false) {h : Hp} {nx x : Nat} {s : AS} {la ra cs : Nat → Nat} (hA : AI s) (hB : CB h x s la ra cs) (n : Int32) : MetX l G D base miX4_cars 6 1 6 [.ref x, .int n] h nx (KCp (sCars s n) h nx) (KXp (sCars s n)) := by
  refine MetX_of hl (by decide +kernel) rfl ?_
  intro k g hr hth hR hcl hcg hcd hcb hcn hnx
  subst hcl; subst hcg; subst hcd; subst hcb
  show Sf k 0 0 h nx 0 [some (.ref x), some (.int n), none] []
  by_cases qr : opB s n = true
  · skip
    refine r_aload_n g dX4_cars_0 rfl ?_
    refine r_iload_n g dX4_cars_1 rfl ?_
    have zr := ok_c_openRide (cL k) (cG k) (cD k) (cBase k) (nx := nx) hA hB n
    rw [show rdB s ra n = some (ra (oi s n)) from if_pos qr] at zr
    refine r_pV g kX4_106 zr hB.1 rfl rfl rfl hnx hR (by decide) (Nat.zero_le _) (Nat.zero_le _) rfl rfl dX4_cars_2 ?_
    refine r_astore_n g dX4_cars_5 rfl rfl rfl ?_
    refine r_aload_n g dX4_cars_6 rfl ?_
    refine r_ifnonnull 20 g dX4_cars_7 (by decide) ?_
    refine r_aload_n g dX4_cars_20 rfl ?_
    refine r_aload_n g dX4_cars_21 rfl ?_
    refine r_pV g kX4_137 (ok_c_ableCars _ _ _ _ hA hB (q := (oc s (oi s n))) (oc_at (oi_at hA qr).1).1 (hB.2.2.2.2 _ (oi_at hA qr).1)) hB.1 rfl rfl rfl hnx hR (by decide) (Nat.zero_le _) (Nat.zero_le _) rfl rfl dX4_cars_22 ?_
    exact r_iret g hr (by decide) (by decide) dX4_cars_25 ⟨by unfold sCars; rw [if_neg (by rw [qr]; decide)], by unfold sCars; rw [if_neg (by rw [qr]; decide), (oi_at hA qr).2], rfl, rfl⟩
  · skip
    refine r_aload_n g dX4_cars_0 rfl ?_
    refine r_iload_n g dX4_cars_1 rfl ?_
    have zr := ok_c_openRide (cL k) (cG k) (cD k) (cBase k) (nx := nx) hA hB n
    rw [show rdB s ra n = none from if_neg qr] at zr
    refine r_pV g kX4_106 zr hB.1 rfl rfl rfl hnx hR (by decide) (Nat.zero_le _) (Nat.zero_le _) rfl rfl dX4_cars_2 ?_
    refine r_astore_nN g dX4_cars_5 rfl rfl rfl ?_
    refine r_aload_nN g dX4_cars_6 rfl ?_
    refine r_ifnonnullN g dX4_cars_7 ?_
    exact r_thrI g hth ⟨by show (sCars s n).1 = 1; unfold sCars; rw [if_pos (by simpa using qr)], rfl⟩ (Nat.le_refl _) (List.mem_of_getElem? (i := 7) rfl) hR (by decide) (by decide) (by decide) rfl dX4_cars_10 dX4_cars_13 dX4_cars_14 dX4_cars_16 dX4_cars_19
set_option maxHeartbeats 4000000 in
set_option maxRecDepth 100000 in
theorem ok_c_weight (l : Launch) (G : Nat → ClassId) (D : va_G) (base : Nat) (hl : l.stackTraces = false) {h : Hp} {nx x : Nat} {s : AS} {la ra cs : Nat → Nat} (hA : AI s) (hB : CB h x s la ra cs) (n : Int32) : MetX l G D base miX4_weight 6 1 6 [.ref x, .int n] h nx (KCp (sWeight s n) h nx) (KXp (sWeight s n)) := by
  refine MetX_of hl (by decide +kernel) rfl ?_
  intro k g hr hth hR hcl hcg hcd hcb hcn hnx
  subst hcl; subst hcg; subst hcd; subst hcb
  show Sf k 0 0 h nx 0 [some (.ref x), some (.int n), none] []
  by_cases qr : opB s n = true
  · skip
    refine r_aload_n g dX4_weight_0 rfl ?_
    refine r_iload_n g dX4_weight_1 rfl ?_
    have zr := ok_c_openRide (cL k) (cG k) (cD k) (cBase k) (nx := nx) hA hB n
    rw [show rdB s ra n = some (ra (oi s n)) from if_pos qr] at zr
    refine r_pV g kX4_106 zr hB.1 rfl rfl rfl hnx hR (by decide) (Nat.zero_le _) (Nat.zero_le _) rfl rfl dX4_weight_2 ?_
    refine r_astore_n g dX4_weight_5 rfl rfl rfl ?_
    refine r_aload_n g dX4_weight_6 rfl ?_
    refine r_ifnonnull 20 g dX4_weight_7 (by decide) ?_
    refine r_aload_n g dX4_weight_20 rfl ?_
    refine r_aload_n g dX4_weight_21 rfl ?_
    refine r_pV g kX4_141 (ok_c_weightNow _ _ _ _ hA hB (i := (oi s n)) (oi_at hA qr).1 (hB.2.2.2.2 _ (oi_at hA qr).1)) hB.1 rfl rfl rfl hnx hR (by decide) (Nat.zero_le _) (Nat.zero_le _) rfl rfl dX4_weight_22 ?_
    exact r_iret g hr (by decide) (by decide) dX4_weight_25 ⟨by unfold sWeight; rw [if_neg (by rw [qr]; decide)], by unfold sWeight; rw [if_neg (by rw [qr]; decide), (oi_at hA qr).2], rfl, rfl⟩
  · skip
    refine r_aload_n g dX4_weight_0 rfl ?_
    refine r_iload_n g dX4_weight_1 rfl ?_
    have zr := ok_c_openRide (cL k) (cG k) (cD k) (cBase k) (nx := nx) hA hB n
    rw [show rdB s ra n = none from if_neg qr] at zr
    refine r_pV g kX4_106 zr hB.1 rfl rfl rfl hnx hR (by decide) (Nat.zero_le _) (Nat.zero_le _) rfl rfl dX4_weight_2 ?_
    refine r_astore_nN g dX4_weight_5 rfl rfl rfl ?_
    refine r_aload_nN g dX4_weight_6 rfl ?_
    refine r_ifnonnullN g dX4_weight_7 ?_
    exact r_thrI g hth ⟨by show (sWeight s n).1 = 1; unfold sWeight; rw [if_pos (by simpa using qr)], rfl⟩ (Nat.le_refl _) (List.mem_of_getElem? (i := 7) rfl) hR (by decide) (by decide) (by decide) rfl dX4_weight_10 dX4_weight_13 dX4_weight_14 dX4_weight_16 dX4_weight_19
set_option maxHeartbeats 4000000 in
set_option maxRecDepth 100000 in
theorem ok_c_carOf (l : Launch) (G : Nat → ClassId) (D : va_G) (base : Nat) (hl : l.stackTraces = false) {h : Hp} {nx x : Nat} {s : AS} {la ra cs : Nat → Nat} (hA : AI s) (hB : CB h x s la ra cs) {C : Int32} {Lz : Int64} {GA : Nat → Nat → Int32} {r : GR} (hG : GO h (x + 3) C Lz GA) (hGL : GLr r C GA) (y : Int32) : MetX l G D base miX4_carOf 6 1 6 [.ref x, .int y] h nx (KCp (sCarOf s r y) h nx) (KXp (sCarOf s r y)) := by
  refine MetX_of hl (by decide +kernel) rfl ?_
  intro k g hr hth hR hcl hcg hcd hcb hcn hnx
  subst hcl; subst hcg; subst hcd; subst hcb
  obtain ⟨⟨hn1, hn2⟩, ht, hnc, hN, -⟩ := id hA
  have hop := hA.2.2.2.2.2.2.1
  obtain ⟨n6, hn6, hC, hat⟩ := hGL.at
  show Sf k 0 0 h nx 0 [some (.ref x), some (.int y), none] []
  refine r_aload_n g dX4_carOf_0 rfl ?_
  refine r_iload_n g dX4_carOf_1 rfl ?_
  refine r_pV g kX4_152 (ok_c_wasCalled _ _ _ _ hA hB y) hB.1 rfl rfl rfl hnx hR (by decide) (Nat.zero_le _) (Nat.zero_le _) rfl rfl dX4_carOf_2 ?_
  refine r_if_ne 18 g dX4_carOf_5 (by decide) (fun c5 => ?_) (fun c5 => ?_)
  · skip
    have q5 := b2_t c5
    refine r_aload_n g dX4_carOf_18 rfl ?_
    refine r_getf g fX4_24 hB.1 rfl dX4_carOf_19 ?_
    refine r_iload_n g dX4_carOf_22 rfl ?_
    refine r_callV g kX4_157 (ok_g_slotOf _ _ _ _ hC hn6 hG y) hG.1 rfl rfl rfl hnx hR (by decide) (by decide) (by decide) rfl rfl dX4_carOf_23 ?_
    rintro v9 h9 nx9 ⟨rfl, rfl, y9, rfl, hy9⟩ -
    rw [(inB_at (by omega) q5).2] at hy9
    have hz9 := hat _ (by have := (inB_at (by omega) q5).1; omega) y9 hy9
    refine r_istore_n g dX4_carOf_26 rfl rfl rfl ?_
    refine r_iload_n g dX4_carOf_27 rfl ?_
    refine r_iconst (v := (-1)) g dX4_carOf_28 (by decide) ?_
    refine r_icmp_ne 36 g dX4_carOf_29 (by decide) (fun c29 => ?_) (fun c29 => ?_)
    · skip
      obtain ⟨i, hi, rfl, hr4, h3, h4, h5, h2⟩ := hz9.resolve_left (fun z => c29 z.1)
      refine r_aload_n g dX4_carOf_36 rfl ?_
      refine r_getf g fX4_24 hB.1 rfl dX4_carOf_37 ?_
      refine r_getf g fX4_161 hG.1 rfl dX4_carOf_40 ?_
      refine r_iload_n g dX4_carOf_43 rfl ?_
      refine rg_iald 3 (j := i) g hG rfl rfl (show i < 6 by omega) dX4_carOf_44 ?_
      refine r_topi (y := (nI (r.1 (iN y) 0))) h3 ?_
      exact r_iret g hr (by decide) (by decide) dX4_carOf_45 ⟨by unfold sCarOf; rw [if_neg (by rw [q5]; decide)], by unfold sCarOf; rw [if_neg (by rw [q5]; decide)]; rw [show beI (r.1 (iN y) 0) = nI (r.1 (iN y) 0) from if_neg (by omega)], rfl, rfl⟩
    · skip
      have hz4 : r.1 (iN y) 0 = 4 := hz9.elim (fun z => z.2) (fun ⟨i, hi, e, _⟩ => absurd (e.symm.trans c29) (m1_ne (by omega)))
      refine r_iconst (v := (-1)) g dX4_carOf_32 (by decide) ?_
      refine r_goto 45 g dX4_carOf_33 (by decide) ?_
      exact r_iret g hr (by decide) (by decide) dX4_carOf_45 ⟨by unfold sCarOf; rw [if_neg (by rw [q5]; decide)], by unfold sCarOf; rw [if_neg (by rw [q5]; decide)]; rw [hz4]; rfl, rfl, rfl⟩
  · skip
    have q5 := b2_f c5
    exact r_thrI g hth ⟨by show (sCarOf s r y).1 = 1; unfold sCarOf; rw [if_pos q5], rfl⟩ (Nat.le_refl _) (List.mem_of_getElem? (i := 10) rfl) hR (by decide) (by decide) (by decide) rfl dX4_carOf_8 dX4_carOf_11 dX4_carOf_12 dX4_carOf_14 dX4_carOf_17
set_option maxHeartbeats 4000000 in
set_option maxRecDepth 100000 in
theorem ok_c_told (l : Launch) (G : Nat → ClassId) (D : va_G) (base : Nat) (hl : l.stackTraces = false) {h : Hp} {nx x : Nat} {s : AS} {la ra cs : Nat → Nat} (hA : AI s) (hB : CB h x s la ra cs) {C : Int32} {Lz : Int64} {GA : Nat → Nat → Int32} {r : GR} (hG : GO h (x + 3) C Lz GA) (hGL : GLr r C GA) (y w : Int32) : MetX l G D base miX4_told 6 1 6 [.ref x, .int y, .int w] h nx (KCp (sTold s r y w) h nx) (KXp (sTold s r y w)) := by
  refine MetX_of hl (by decide +kernel) rfl ?_
  intro k g hr hth hR hcl hcg hcd hcb hcn hnx
  subst hcl; subst hcg; subst hcd; subst hcb
  obtain ⟨⟨hn1, hn2⟩, ht, hnc, hN, -⟩ := id hA
  have hop := hA.2.2.2.2.2.2.1
  obtain ⟨n6, hn6, hC, hat⟩ := hGL.at
  show Sf k 0 0 h nx 0 [some (.ref x), some (.int y), some (.int w), none] []
  refine r_aload_n g dX4_told_0 rfl ?_
  refine r_iload_n g dX4_told_1 rfl ?_
  refine r_pV g kX4_152 (ok_c_wasCalled _ _ _ _ hA hB y) hB.1 rfl rfl rfl hnx hR (by decide) (Nat.zero_le _) (Nat.zero_le _) rfl rfl dX4_told_2 ?_
  refine r_if_eq 17 g dX4_told_5 (by decide) (fun c5 => ?_) (fun c5 => ?_)
  · skip
    have q5 := b2_f c5
    have hf : (inB y (s.1 3) && inR w 0 2) = false := by first | (rw [q5]; rfl) | (rw [Bool.and_eq_false_iff]; exact Or.inr (decide_eq_false (fun z => by first | exact absurd c9 (Int32.not_lt.mpr z.1) | exact absurd z.2 c14)))
    exact r_thrI g hth ⟨by show (sTold s r y w).1 = 1; unfold sTold; rw [if_pos hf], rfl⟩ (Nat.le_refl _) (List.mem_of_getElem? (i := 12) rfl) hR (by decide) (by decide) (by decide) rfl dX4_told_17 dX4_told_20 dX4_told_21 dX4_told_23 dX4_told_26
  · skip
    have q5 := b2_t c5
    refine r_iload_n g dX4_told_8 rfl ?_
    refine r_if_lt 17 g dX4_told_9 (by decide) (fun c9 => ?_) (fun c9 => ?_)
    · skip
      have hf : (inB y (s.1 3) && inR w 0 2) = false := by first | (rw [q5]; rfl) | (rw [Bool.and_eq_false_iff]; exact Or.inr (decide_eq_false (fun z => by first | exact absurd c9 (Int32.not_lt.mpr z.1) | exact absurd z.2 c14)))
      exact r_thrI g hth ⟨by show (sTold s r y w).1 = 1; unfold sTold; rw [if_pos hf], rfl⟩ (Nat.le_refl _) (List.mem_of_getElem? (i := 12) rfl) hR (by decide) (by decide) (by decide) rfl dX4_told_17 dX4_told_20 dX4_told_21 dX4_told_23 dX4_told_26
    · skip
      refine r_iload_n g dX4_told_12 rfl ?_
      refine r_iconst (v := 2) g dX4_told_13 (by decide) ?_
      refine r_icmp_le 27 g dX4_told_14 (by decide) (fun c14 => ?_) (fun c14 => ?_)
      · skip
        have hin : inR w 0 2 = true := decide_eq_true ⟨Int32.not_lt.mp c9, c14⟩
        have hf : (inB y (s.1 3) && inR w 0 2) = true := by rw [q5, hin]; rfl
        obtain ⟨-, hw2, hwe⟩ := inR_at (by decide) (by decide) hin
        refine r_aload_n g dX4_told_27 rfl ?_
        refine r_getf g fX4_24 hB.1 rfl dX4_told_28 ?_
        refine r_iload_n g dX4_told_31 rfl ?_
        refine r_callV g kX4_157 (ok_g_slotOf _ _ _ _ hC hn6 hG y) hG.1 rfl rfl rfl hnx hR (by decide) (by decide) (by decide) rfl rfl dX4_told_32 ?_
        rintro v9 h9 nx9 ⟨rfl, rfl, y9, rfl, hy9⟩ -
        rw [(inB_at (by omega) q5).2] at hy9
        have hz9 := hat _ (by have := (inB_at (by omega) q5).1; omega) y9 hy9
        refine r_istore_n g dX4_told_35 rfl rfl rfl ?_
        refine r_iload_n g dX4_told_36 rfl ?_
        refine r_iconst (v := (-1)) g dX4_told_37 (by decide) ?_
        refine r_icmp_ne 43 g dX4_told_38 (by decide) (fun c38 => ?_) (fun c38 => ?_)
        · skip
          obtain ⟨i, hi, rfl, hr4, h3, h4, h5, h2⟩ := hz9.resolve_left (fun z => c38 z.1)
          refine r_iload_n g dX4_told_43 rfl ?_
          refine r_if_ne 57 g dX4_told_44 (by decide) (fun c44 => ?_) (fun c44 => ?_)
          · skip
            refine r_iload_n g dX4_told_57 rfl ?_
            refine r_iconst (v := 1) g dX4_told_58 (by decide) ?_
            refine r_icmp_ne 74 g dX4_told_59 (by decide) (fun c59 => ?_) (fun c59 => ?_)
            · skip
              have hw0 : iN w = 2 := by
                have n0 : iN w ≠ 0 := fun z => c44 (by rw [hwe, z]; rfl)
                have n1 : iN w ≠ 1 := fun z => c59 (by rw [hwe, z]; rfl)
                omega
              refine r_aload_n g dX4_told_74 rfl ?_
              refine r_getf g fX4_24 hB.1 rfl dX4_told_75 ?_
              refine r_getf g fX4_178 hG.1 rfl dX4_told_78 ?_
              refine r_iload_n g dX4_told_81 rfl ?_
              refine rg_iald 2 (j := i) g hG rfl rfl (show i < 6 by omega) dX4_told_82 ?_
              refine r_topi (y := (nI (r.1 (iN y) 3))) h2 ?_
              exact r_iret g hr (by decide) (by decide) dX4_told_83 ⟨by unfold sTold; rw [if_neg (by rw [hf]; decide)], by unfold sTold; rw [if_neg (by rw [hf]; decide)]; show _ = some (Value.int (if r.1 (iN y) 0 = 4 then _ else _)); rw [if_neg (by omega), hw0], rfl, rfl⟩
            · skip
              have hw0 : iN w = 1 := by rw [c59]; rfl
              refine r_aload_n g dX4_told_62 rfl ?_
              refine r_getf g fX4_24 hB.1 rfl dX4_told_63 ?_
              refine r_getf g fX4_175 hG.1 rfl dX4_told_66 ?_
              refine r_iload_n g dX4_told_69 rfl ?_
              refine rg_iald 5 (j := i) g hG rfl rfl (show i < 6 by omega) dX4_told_70 ?_
              refine r_topi (y := (nI (r.1 (iN y) 2))) h5 ?_
              refine r_goto 83 g dX4_told_71 (by decide) ?_
              exact r_iret g hr (by decide) (by decide) dX4_told_83 ⟨by unfold sTold; rw [if_neg (by rw [hf]; decide)], by unfold sTold; rw [if_neg (by rw [hf]; decide)]; show _ = some (Value.int (if r.1 (iN y) 0 = 4 then _ else _)); rw [if_neg (by omega), hw0], rfl, rfl⟩
          · skip
            have hw0 : iN w = 0 := by rw [c44]; rfl
            refine r_aload_n g dX4_told_47 rfl ?_
            refine r_getf g fX4_24 hB.1 rfl dX4_told_48 ?_
            refine r_getf g fX4_172 hG.1 rfl dX4_told_51 ?_
            refine r_iload_n g dX4_told_54 rfl ?_
            refine rg_iald 4 (j := i) g hG rfl rfl (show i < 6 by omega) dX4_told_55 ?_
            refine r_topi (y := (nI (r.1 (iN y) 1))) h4 ?_
            exact r_iret g hr (by decide) (by decide) dX4_told_56 ⟨by unfold sTold; rw [if_neg (by rw [hf]; decide)], by unfold sTold; rw [if_neg (by rw [hf]; decide)]; show _ = some (Value.int (if r.1 (iN y) 0 = 4 then _ else _)); rw [if_neg (by omega), hw0], rfl, rfl⟩
        · skip
          have hz4 : r.1 (iN y) 0 = 4 := hz9.elim (fun z => z.2) (fun ⟨i, hi, e, _⟩ => absurd (e.symm.trans c38) (m1_ne (by omega)))
          refine r_iconst (v := (-1)) g dX4_told_41 (by decide) ?_
          exact r_iret g hr (by decide) (by decide) dX4_told_42 ⟨by unfold sTold; rw [if_neg (by rw [hf]; decide)], by unfold sTold; rw [if_neg (by rw [hf]; decide)]; show _ = some (Value.int (if r.1 (iN y) 0 = 4 then _ else _)); rw [if_pos hz4], rfl, rfl⟩
      · skip
        have hf : (inB y (s.1 3) && inR w 0 2) = false := by first | (rw [q5]; rfl) | (rw [Bool.and_eq_false_iff]; exact Or.inr (decide_eq_false (fun z => by first | exact absurd c9 (Int32.not_lt.mpr z.1) | exact absurd z.2 c14)))
        exact r_thrI g hth ⟨by show (sTold s r y w).1 = 1; unfold sTold; rw [if_pos hf], rfl⟩ (Nat.le_refl _) (List.mem_of_getElem? (i := 12) rfl) hR (by decide) (by decide) (by decide) rfl dX4_told_17 dX4_told_20 dX4_told_21 dX4_told_23 dX4_told_26
set_option maxHeartbeats 4000000 in
set_option maxRecDepth 100000 in
theorem ok_c_turn (l : Launch) (G : Nat → ClassId) (D : va_G) (base : Nat) (hl : l.stackTraces = false) {h : Hp} {nx x : Nat} {s : AS} {la ra cs : Nat → Nat} (hA : AI s) (hB : CB h x s la ra cs) {C : Int32} {Lz : Int64} {GA : Nat → Nat → Int32} {r : GR} (hG : GO h (x + 3) C Lz GA) (hGL : GLr r C GA) (c y : Int32) : MetX l G D base miX4_turn 6 1 6 [.ref x, .int c, .int y] h nx (KCp (sTurn s r c y) h nx) (KXp (sTurn s r c y)) := by
  refine MetX_of hl (by decide +kernel) rfl ?_
  intro k g hr hth hR hcl hcg hcd hcb hcn hnx
  subst hcl; subst hcg; subst hcd; subst hcb
  obtain ⟨⟨hn1, hn2⟩, ht, hnc, hN, -⟩ := id hA
  have hop := hA.2.2.2.2.2.2.1
  obtain ⟨n6, hn6, hC, hat⟩ := hGL.at
  show Sf k 0 0 h nx 0 [some (.ref x), some (.int c), some (.int y)] []
  by_cases qc : inB c (s.1 2) = true
  · skip
    refine r_aload_n g dX4_turn_0 rfl ?_
    refine r_iload_n g dX4_turn_1 rfl ?_
    have zl := ok_c_liftOf (cL k) (cG k) (cD k) (cBase k) (nx := nx) hA hB c
    rw [show lfB s la c = some (la (iN c)) from if_pos qc] at zl
    refine r_pV g kX4_63 zl hB.1 rfl rfl rfl hnx hR (by decide) (Nat.zero_le _) (Nat.zero_le _) rfl rfl dX4_turn_2 ?_
    refine r_ifnull g dX4_turn_5 ?_
    refine r_iload_n g dX4_turn_8 rfl ?_
    refine r_if_ge 22 g dX4_turn_9 (by decide) (fun c9 => ?_) (fun c9 => ?_)
    · skip
      obtain ⟨j, hj, rfl⟩ := nI_of (x := y) (Int32.not_lt.mpr c9)
      refine r_aload_n g dX4_turn_22 rfl ?_
      refine r_getf g fX4_24 hB.1 rfl dX4_turn_23 ?_
      refine r_iload_n g dX4_turn_26 rfl ?_
      refine r_iload_n g dX4_turn_27 rfl ?_
      have hcj := inB_at (by omega) qc
      have zz := ok_g_inRow (cL k) (cG k) (cD k) (cBase k) (nx := nx) hG (c := iN c) (x := j) (by omega) hj
      rw [hGL.row (show iN c < 4 by omega), ← hcj.2] at zz
      refine r_pV g kX4_167 zz hG.1 rfl rfl rfl hnx hR (by decide) (by decide) (by decide) rfl rfl dX4_turn_28 ?_
      have hf : (inB c (s.1 2) && decide (0 ≤ nI j)) = true := by rw [qc, decide_eq_true c9]; rfl
      have he : sTurn s r c (nI j) = (0, if j < r.2.2 (iN c) then nI (r.2.1 (iN c) j) else -1) := by unfold sTurn; rw [if_neg (by rw [hf]; decide), iN_nI hj]
      exact r_iret g hr (by decide) (by decide) dX4_turn_31 ⟨by rw [he], by rw [he], rfl, rfl⟩
    · skip
      have hf : (inB c (s.1 2) && decide (0 ≤ y)) = false := by rw [Bool.and_eq_false_iff]; first | exact Or.inl (by simpa using qc) | exact Or.inr (decide_eq_false c9)
      exact r_thrI g hth ⟨by show (sTurn s r c y).1 = 1; unfold sTurn; rw [if_pos hf], rfl⟩ (Nat.le_refl _) (List.mem_of_getElem? (i := 11) rfl) hR (by decide) (by decide) (by decide) rfl dX4_turn_12 dX4_turn_15 dX4_turn_16 dX4_turn_18 dX4_turn_21
  · skip
    refine r_aload_n g dX4_turn_0 rfl ?_
    refine r_iload_n g dX4_turn_1 rfl ?_
    have zl := ok_c_liftOf (cL k) (cG k) (cD k) (cBase k) (nx := nx) hA hB c
    rw [show lfB s la c = none from if_neg qc] at zl
    refine r_pV g kX4_63 zl hB.1 rfl rfl rfl hnx hR (by decide) (Nat.zero_le _) (Nat.zero_le _) rfl rfl dX4_turn_2 ?_
    refine r_ifnullN 12 g dX4_turn_5 (by decide) ?_
    have hf : (inB c (s.1 2) && decide (0 ≤ y)) = false := by rw [Bool.and_eq_false_iff]; first | exact Or.inl (by simpa using qc) | exact Or.inr (decide_eq_false c9)
    exact r_thrI g hth ⟨by show (sTurn s r c y).1 = 1; unfold sTurn; rw [if_pos hf], rfl⟩ (Nat.le_refl _) (List.mem_of_getElem? (i := 11) rfl) hR (by decide) (by decide) (by decide) rfl dX4_turn_12 dX4_turn_15 dX4_turn_16 dX4_turn_18 dX4_turn_21
