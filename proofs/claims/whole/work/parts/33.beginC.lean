/-! 33: begin, done -/
theorem CI.same {h : Hp} {x lo nx : Nat} {s : AS} {r : GR} {la ra cs : Nat → Nat} {C : Int32} {Lz : Int64} {GA : Nat → Nat → Int32} (hB : CB h x s la ra cs) (hLo : CLo s x lo nx la ra) (hCs : CCs s cs) (hG : GO h (x + 3) C Lz GA) (hGL : GLr r C GA) (h60 : GA 6 0 = 0) : CI h x lo nx s r := ⟨la, ra, cs, C, Lz, GA, hB, hLo, hCs, hG, hGL, h60⟩

set_option maxHeartbeats 4000000 in
set_option maxRecDepth 100000 in
theorem ok_c_begin (l : Launch) (G : Nat → ClassId) (D : va_G) (base : Nat) (hl : l.stackTraces = false) {h : Hp} {nx x lo : Nat} {s : AS} {r : GR} (hA : AI s) (hCI : CI h x lo nx s r) (hbx : base ≤ x) (y c : Int32) : MetX l G D base miX4_begin 6 1 6 [.ref x, .int y, .int c] h nx (KCr h x lo r false (sBegin s y c)) (KXr (sBegin s y c)) := by
  obtain ⟨la, ra, cs, C, Lz, GA, hB, hLo, hCs, hG, hGL, h60⟩ := hCI
  refine MetX_of hl (by decide +kernel) rfl ?_
  intro k g hr hth hR hcl hcg hcd hcb hcn hnx
  subst hcl; subst hcg; subst hcd; subst hcb
  obtain ⟨⟨hn1, hn2⟩, ht, hnc, hN, -⟩ := id hA
  have hop := hA.2.2.2.2.2.2.1
  show Sf k 0 0 h nx 0 [some (.ref x), some (.int y), some (.int c), none, none] []
  by_cases qr : opB s y = true
  · skip
    by_cases qc : inB c (s.1 2) = true
    · skip
      refine r_aload_n g dX4_begin_0 rfl ?_
      refine r_iload_n g dX4_begin_1 rfl ?_
      have zr := ok_c_openRide (cL k) (cG k) (cD k) (cBase k) (nx := nx) hA hB y
      rw [show rdB s ra y = some (ra (oi s y)) from if_pos qr] at zr
      refine r_pV g kX4_106 zr hB.1 rfl rfl rfl hnx hR (by decide) (Nat.zero_le _) (Nat.zero_le _) rfl rfl dX4_begin_2 ?_
      refine r_astore_n g dX4_begin_5 rfl rfl rfl ?_
      refine r_aload_n g dX4_begin_6 rfl ?_
      refine r_iload_n g dX4_begin_7 rfl ?_
      have zl := ok_c_liftOf (cL k) (cG k) (cD k) (cBase k) (nx := nx) hA hB c
      rw [show lfB s la c = some (la (iN c)) from if_pos qc] at zl
      refine r_pV g kX4_63 zl hB.1 rfl rfl rfl hnx hR (by decide) (Nat.zero_le _) (Nat.zero_le _) rfl rfl dX4_begin_8 ?_
      refine r_astore g dX4_begin_11 rfl rfl rfl ?_
      refine r_aload_n g dX4_begin_13 rfl ?_
      refine r_ifnull g dX4_begin_14 ?_
      refine r_aload g dX4_begin_17 rfl ?_
      refine r_ifnonnull 37 g dX4_begin_19 (by decide) ?_
      refine r_aload g dX4_begin_37 rfl ?_
      refine r_ifnull g dX4_begin_39 ?_
      refine r_aload g dX4_begin_42 rfl ?_
      refine r_aload_n g dX4_begin_44 rfl ?_
      have hri := oi_at hA qr
      have hci := (inB_at (by omega) qc).1
      refine r_pV g kX4_117 (ok_c_reaches _ _ _ _ (cs := cs) (c := (iN c)) (q := (oc s (oi s y))) hA hci (oc_at hri.1).1 (hB.2.2.2.1 _ (inB_at (by omega) qc).1).1 (hB.2.2.2.2 _ (oi_at hA qr).1)) (hB.2.2.2.1 _ (inB_at (by omega) qc).1).1 rfl rfl rfl hnx hR (by decide) (Nat.zero_le _) (Nat.zero_le _) rfl rfl dX4_begin_45 ?_
      refine r_if_eq 60 g dX4_begin_48 (by decide) (fun c48 => ?_) (fun c48 => ?_)
      · skip
        have q48 := b2_f c48
        refine r_iconst (v := 0) g dX4_begin_60 (by decide) ?_
        have hc1 : ¬ c = -1 := fun z => by rw [z] at qc; exact absurd qc (by unfold inB; rw [decide_eq_false (fun y => absurd y.1 (by decide))]; decide)
        have hf : (opB s y && (decide (c = -1) || inB c (s.1 2))) = true := by rw [qr, qc, Bool.or_true]; rfl
        have ho : (othB s (iN y) (iN c) (s.1 3) || !witB s (iN c) (iN y)) = true := by first | (rw [q57]; rfl) | (rw [← hri.2, q48, Bool.or_comm]; rfl)
        have he : sBegin s y c = (0, 0, s) := by unfold sBegin; rw [if_neg (by rw [hf]; decide), if_neg hc1, if_pos ho]
        exact r_zret g hr (by decide) (by decide) dX4_begin_61 rfl ⟨by rw [he], by rw [he]; rfl, by rw [he]; exact CI.same hB hLo hCs hG hGL h60, FrX.rf⟩
      · skip
        have q48 := b2_t c48
        refine r_aload_n g dX4_begin_51 rfl ?_
        refine r_iload_n g dX4_begin_52 rfl ?_
        refine r_aload_n g dX4_begin_53 rfl ?_
        have zh := ok_c_hasBegunAnother (cL k) (cG k) (cD k) (cBase k) hA hB hLo (c := iN c) (w := oi s y) (by omega) hri.1
        rw [← (inB_at (by omega) qc).2, hri.2] at zh
        refine r_pV g kX4_121 zh hB.1 rfl rfl rfl hnx hR (by decide) (Nat.zero_le _) (Nat.zero_le _) rfl rfl dX4_begin_54 ?_
        refine r_if_eq 62 g dX4_begin_57 (by decide) (fun c57 => ?_) (fun c57 => ?_)
        · skip
          have q57 := b2_f c57
          have hri := oi_at hA qr
          have hbo : cBase k ≤ ra (oi s y) := by have := hLo.2.2.2.2.1 _ hri.1; have := hLo.1; omega
          refine r_aload_n g dX4_begin_62 rfl ?_
          refine r_iload_n g dX4_begin_63 rfl ?_
          refine r_put1 (fs' := dobj (upd (rfS s (oc s (oi s y))) 5 c)) g fX4_125 (hB.2.2.2.2 _ (oi_at hA qr).1) hbo (by show 5 < 6; decide) rfl rfl rfl dX4_begin_64 ?_
          intro h_1 hU_2
          refine r_iconst (v := 1) g dX4_begin_67 (by decide) ?_
          have hc1 : ¬ c = -1 := fun z => by rw [z] at qc; exact absurd qc (by unfold inB; rw [decide_eq_false (fun y => absurd y.1 (by decide))]; decide)
          have hf : (opB s y && (decide (c = -1) || inB c (s.1 2))) = true := by rw [qr, qc, Bool.or_true]; rfl
          have hce := inB_at (by omega) qc
          have hcb : c = beI (iN c) := by rw [show beI (iN c) = nI (iN c) from if_neg (by omega)]; exact hce.2
          have ho : ¬ (othB s (iN y) (iN c) (s.1 3) || !witB s (iN c) (iN y)) = true := by rw [q57, ← hri.2, q48]; decide
          have he : sBegin s y c = (0, 1, (s.1, s.2.1, up2 s.2.2 (iN y) 5 (iN c))) := by unfold sBegin; rw [if_neg (by rw [hf]; decide), if_neg hc1, if_neg ho]
          refine r_zret g hr (by decide) (by decide) dX4_begin_68 rfl ⟨by rw [he], by rw [he]; rfl, ?_, hU_2.frx (by have := hLo.2.2.2.2.1 _ hri.1; have := hLo.1; omega)⟩
          rw [he]
          refine ⟨la, ra, cs, C, Lz, GA, hB.setR hLo hri.1 rfl rfl (fun q => ?_) (?_ : Up1 _ _ _ _) (fun q hq => ?_), ?_, hCs, hG.fr hU_2.fr (by have := hLo.2.2.2.2.1 _ hri.1; have := hLo.1; omega), hGL, h60⟩
          · unfold up2
            simp
          · have hx := hU_2
            rw [show dobj (upd (rfS s (oc s (oi s y))) 5 c) = dobj (rfS (s.1, s.2.1, up2 s.2.2 (iN y) 5 (iN c)) (oc s (oi s y))) from ?_] at hx
            · exact hx
            · rw [hri.2]
              unfold dobj rfS up2 upd
              simp
              exact hcb
          · rw [hri.2] at hq
            unfold dobj rfS up2
            simp [hq]
          · unfold CLo at hLo ⊢
            rw [(oL_cong (s := s) (s' := (s.1, s.2.1, up2 s.2.2 (iN y) 5 (iN c))) rfl (fun q => by unfold up2; simp)).2.1]
            exact hLo
        · skip
          have q57 := b2_t c57
          refine r_iconst (v := 0) g dX4_begin_60 (by decide) ?_
          have hc1 : ¬ c = -1 := fun z => by rw [z] at qc; exact absurd qc (by unfold inB; rw [decide_eq_false (fun y => absurd y.1 (by decide))]; decide)
          have hf : (opB s y && (decide (c = -1) || inB c (s.1 2))) = true := by rw [qr, qc, Bool.or_true]; rfl
          have ho : (othB s (iN y) (iN c) (s.1 3) || !witB s (iN c) (iN y)) = true := by first | (rw [q57]; rfl) | (rw [← hri.2, q48, Bool.or_comm]; rfl)
          have he : sBegin s y c = (0, 0, s) := by unfold sBegin; rw [if_neg (by rw [hf]; decide), if_neg hc1, if_pos ho]
          exact r_zret g hr (by decide) (by decide) dX4_begin_61 rfl ⟨by rw [he], by rw [he]; rfl, by rw [he]; exact CI.same hB hLo hCs hG hGL h60, FrX.rf⟩
    · skip
      refine r_aload_n g dX4_begin_0 rfl ?_
      refine r_iload_n g dX4_begin_1 rfl ?_
      have zr := ok_c_openRide (cL k) (cG k) (cD k) (cBase k) (nx := nx) hA hB y
      rw [show rdB s ra y = some (ra (oi s y)) from if_pos qr] at zr
      refine r_pV g kX4_106 zr hB.1 rfl rfl rfl hnx hR (by decide) (Nat.zero_le _) (Nat.zero_le _) rfl rfl dX4_begin_2 ?_
      refine r_astore_n g dX4_begin_5 rfl rfl rfl ?_
      refine r_aload_n g dX4_begin_6 rfl ?_
      refine r_iload_n g dX4_begin_7 rfl ?_
      have zl := ok_c_liftOf (cL k) (cG k) (cD k) (cBase k) (nx := nx) hA hB c
      rw [show lfB s la c = none from if_neg qc] at zl
      refine r_pV g kX4_63 zl hB.1 rfl rfl rfl hnx hR (by decide) (Nat.zero_le _) (Nat.zero_le _) rfl rfl dX4_begin_8 ?_
      refine r_astoreN g dX4_begin_11 rfl rfl rfl ?_
      refine r_aload_n g dX4_begin_13 rfl ?_
      refine r_ifnull g dX4_begin_14 ?_
      refine r_aloadN g dX4_begin_17 rfl ?_
      refine r_ifnonnullN g dX4_begin_19 ?_
      refine r_iload_n g dX4_begin_22 rfl ?_
      refine r_iconst (v := (-1)) g dX4_begin_23 (by decide) ?_
      refine r_icmp_eq 37 g dX4_begin_24 (by decide) (fun c24 => ?_) (fun c24 => ?_)
      · skip
        refine r_aloadN g dX4_begin_37 rfl ?_
        refine r_ifnullN 62 g dX4_begin_39 (by decide) ?_
        have hri := oi_at hA qr
        have hbo : cBase k ≤ ra (oi s y) := by have := hLo.2.2.2.2.1 _ hri.1; have := hLo.1; omega
        refine r_aload_n g dX4_begin_62 rfl ?_
        refine r_iload_n g dX4_begin_63 rfl ?_
        refine r_put1 (fs' := dobj (upd (rfS s (oc s (oi s y))) 5 c)) g fX4_125 (hB.2.2.2.2 _ (oi_at hA qr).1) hbo (by show 5 < 6; decide) rfl rfl rfl dX4_begin_64 ?_
        intro h_3 hU_4
        refine r_iconst (v := 1) g dX4_begin_67 (by decide) ?_
        have hcb : c = beI 4 := c24
        have hf : (opB s y && (decide (c = -1) || inB c (s.1 2))) = true := by rw [qr, decide_eq_true c24]; rfl
        have he : sBegin s y c = (0, 1, (s.1, s.2.1, up2 s.2.2 (iN y) 5 4)) := by unfold sBegin; rw [if_neg (by rw [hf]; decide), if_pos c24]
        refine r_zret g hr (by decide) (by decide) dX4_begin_68 rfl ⟨by rw [he], by rw [he]; rfl, ?_, hU_4.frx (by have := hLo.2.2.2.2.1 _ hri.1; have := hLo.1; omega)⟩
        rw [he]
        refine ⟨la, ra, cs, C, Lz, GA, hB.setR hLo hri.1 rfl rfl (fun q => ?_) (?_ : Up1 _ _ _ _) (fun q hq => ?_), ?_, hCs, hG.fr hU_4.fr (by have := hLo.2.2.2.2.1 _ hri.1; have := hLo.1; omega), hGL, h60⟩
        · unfold up2
          simp
        · have hx := hU_4
          rw [show dobj (upd (rfS s (oc s (oi s y))) 5 c) = dobj (rfS (s.1, s.2.1, up2 s.2.2 (iN y) 5 4) (oc s (oi s y))) from ?_] at hx
          · exact hx
          · rw [hri.2]
            unfold dobj rfS up2 upd
            simp
            exact hcb
        · rw [hri.2] at hq
          unfold dobj rfS up2
          simp [hq]
        · unfold CLo at hLo ⊢
          rw [(oL_cong (s := s) (s' := (s.1, s.2.1, up2 s.2.2 (iN y) 5 4)) rfl (fun q => by unfold up2; simp)).2.1]
          exact hLo
      · skip
        have hf : (opB s y && (decide (c = -1) || inB c (s.1 2))) = false := by first | (rw [show opB s y = false by simpa using qr]; rfl) | (rw [show inB c (s.1 2) = false by simpa using qc, decide_eq_false c24]; simp)
        exact r_thrI g hth (Or.inl ⟨by show (sBegin s y c).1 = 1; unfold sBegin; rw [if_pos hf], rfl⟩) (Nat.le_refl _) (List.mem_of_getElem? (i := 8) rfl) hR (by decide) (by decide) (by decide) rfl dX4_begin_27 dX4_begin_30 dX4_begin_31 dX4_begin_33 dX4_begin_36
  · skip
    by_cases qc : inB c (s.1 2) = true
    · skip
      refine r_aload_n g dX4_begin_0 rfl ?_
      refine r_iload_n g dX4_begin_1 rfl ?_
      have zr := ok_c_openRide (cL k) (cG k) (cD k) (cBase k) (nx := nx) hA hB y
      rw [show rdB s ra y = none from if_neg qr] at zr
      refine r_pV g kX4_106 zr hB.1 rfl rfl rfl hnx hR (by decide) (Nat.zero_le _) (Nat.zero_le _) rfl rfl dX4_begin_2 ?_
      refine r_astore_nN g dX4_begin_5 rfl rfl rfl ?_
      refine r_aload_n g dX4_begin_6 rfl ?_
      refine r_iload_n g dX4_begin_7 rfl ?_
      have zl := ok_c_liftOf (cL k) (cG k) (cD k) (cBase k) (nx := nx) hA hB c
      rw [show lfB s la c = some (la (iN c)) from if_pos qc] at zl
      refine r_pV g kX4_63 zl hB.1 rfl rfl rfl hnx hR (by decide) (Nat.zero_le _) (Nat.zero_le _) rfl rfl dX4_begin_8 ?_
      refine r_astore g dX4_begin_11 rfl rfl rfl ?_
      refine r_aload_nN g dX4_begin_13 rfl ?_
      refine r_ifnullN 27 g dX4_begin_14 (by decide) ?_
      have hf : (opB s y && (decide (c = -1) || inB c (s.1 2))) = false := by first | (rw [show opB s y = false by simpa using qr]; rfl) | (rw [show inB c (s.1 2) = false by simpa using qc, decide_eq_false c24]; simp)
      exact r_thrI g hth (Or.inl ⟨by show (sBegin s y c).1 = 1; unfold sBegin; rw [if_pos hf], rfl⟩) (Nat.le_refl _) (List.mem_of_getElem? (i := 8) rfl) hR (by decide) (by decide) (by decide) rfl dX4_begin_27 dX4_begin_30 dX4_begin_31 dX4_begin_33 dX4_begin_36
    · skip
      refine r_aload_n g dX4_begin_0 rfl ?_
      refine r_iload_n g dX4_begin_1 rfl ?_
      have zr := ok_c_openRide (cL k) (cG k) (cD k) (cBase k) (nx := nx) hA hB y
      rw [show rdB s ra y = none from if_neg qr] at zr
      refine r_pV g kX4_106 zr hB.1 rfl rfl rfl hnx hR (by decide) (Nat.zero_le _) (Nat.zero_le _) rfl rfl dX4_begin_2 ?_
      refine r_astore_nN g dX4_begin_5 rfl rfl rfl ?_
      refine r_aload_n g dX4_begin_6 rfl ?_
      refine r_iload_n g dX4_begin_7 rfl ?_
      have zl := ok_c_liftOf (cL k) (cG k) (cD k) (cBase k) (nx := nx) hA hB c
      rw [show lfB s la c = none from if_neg qc] at zl
      refine r_pV g kX4_63 zl hB.1 rfl rfl rfl hnx hR (by decide) (Nat.zero_le _) (Nat.zero_le _) rfl rfl dX4_begin_8 ?_
      refine r_astoreN g dX4_begin_11 rfl rfl rfl ?_
      refine r_aload_nN g dX4_begin_13 rfl ?_
      refine r_ifnullN 27 g dX4_begin_14 (by decide) ?_
      have hf : (opB s y && (decide (c = -1) || inB c (s.1 2))) = false := by first | (rw [show opB s y = false by simpa using qr]; rfl) | (rw [show inB c (s.1 2) = false by simpa using qc, decide_eq_false c24]; simp)
      exact r_thrI g hth (Or.inl ⟨by show (sBegin s y c).1 = 1; unfold sBegin; rw [if_pos hf], rfl⟩) (Nat.le_refl _) (List.mem_of_getElem? (i := 8) rfl) hR (by decide) (by decide) (by decide) rfl dX4_begin_27 dX4_begin_30 dX4_begin_31 dX4_begin_33 dX4_begin_36
def kp (n w i : Nat) : Nat := if i ≤ w then i else (if i ≤ n then i else n) - 1
def drA (n w : Nat) (ra : Nat → Nat) (i : Nat) : Nat → Option Nat := fun j => if j < kp n w i then some (if j < w then ra j else ra (j + 1)) else if j < i then none else rfA n ra j
theorem kp_le {n w i : Nat} (hw : w < n) : kp n w i ≤ i := by
  unfold kp
  split
  · exact Nat.le_refl _
  · split <;> omega
theorem drA_at {n w i : Nat} {ra : Nat → Nat} (hw : w < n) : drA n w ra i i = rfA n ra i := by
  have := kp_le (i := i) hw
  unfold drA
  rw [if_neg (by omega), if_neg (Nat.lt_irrefl _)]
theorem drA_0 (n w : Nat) (ra : Nat → Nat) : drA n w ra 0 = rfA n ra := by
  funext j
  unfold drA
  rw [if_neg (by unfold kp; rw [if_pos (Nat.zero_le _)]; omega), if_neg (Nat.not_lt_zero _)]
theorem drA_no {n w i : Nat} {ra : Nat → Nat} (hw : w < n) (h : i = w ∨ n ≤ i) : va_up (drA n w ra i) i none = drA n w ra (i + 1) ∧ kp n w (i + 1) = kp n w i := by
  have e : kp n w (i + 1) = kp n w i := by
    unfold kp
    rcases h with h | h
    · rw [if_neg (by omega), if_pos (by omega), if_pos (by omega)]; omega
    · rw [if_neg (by omega), if_neg (by omega), if_neg (by omega)]
      by_cases e2 : i ≤ n
      · rw [if_pos e2]; omega
      · rw [if_neg e2]
  refine ⟨?_, e⟩
  have hk := kp_le (i := i) hw
  funext j
  show (if j = i then none else drA n w ra i j) = _
  unfold drA
  rw [e]
  by_cases h1 : j = i
  · subst h1
    rw [if_pos rfl, if_neg (by omega), if_pos (by omega)]
  · rw [if_neg h1]
    by_cases h2 : j < kp n w i
    · rw [if_pos h2, if_pos h2]
    · rw [if_neg h2, if_neg h2]
      by_cases h3 : j < i
      · rw [if_pos h3, if_pos (by omega)]
      · rw [if_neg h3, if_neg (by omega)]
theorem drA_yes {n w i : Nat} {ra : Nat → Nat} (hw : w < n) (h : i ≠ w) (hi : i < n) : va_up (va_up (drA n w ra i) i none) (kp n w i) (some (ra i)) = drA n w ra (i + 1) ∧ kp n w (i + 1) = kp n w i + 1 := by
  have ek : kp n w i = if i < w then i else i - 1 := by
    unfold kp
    by_cases e : i < w
    · rw [if_pos (by omega), if_pos e]
    · rw [if_neg (by omega), if_pos (by omega), if_neg e]
  have e : kp n w (i + 1) = kp n w i + 1 := by
    rw [ek]
    unfold kp
    by_cases e : i < w
    · rw [if_pos (by omega), if_pos e]
    · rw [if_neg (by omega), if_pos (by omega), if_neg e]; omega
  refine ⟨?_, e⟩
  funext j
  show (if j = kp n w i then some (ra i) else if j = i then none else drA n w ra i j) = _
  unfold drA
  rw [e]
  by_cases h0 : j = kp n w i
  · rw [if_pos h0, if_pos (by omega)]
    by_cases e2 : i < w
    · rw [if_pos e2] at ek
      rw [if_pos (by omega), h0, ek]
    · rw [if_neg e2] at ek
      rw [if_neg (by omega), h0, ek, show i - 1 + 1 = i by omega]
  · rw [if_neg h0]
    have hk := kp_le (i := i) hw
    by_cases h1 : j = i
    · rw [if_pos h1, if_neg (by omega), if_pos (by omega)]
    · rw [if_neg h1]
      by_cases h2 : j < kp n w i
      · rw [if_pos h2, if_pos (show j < kp n w i + 1 by omega)]
      · rw [if_neg h2, if_neg (show ¬ j < kp n w i + 1 by omega)]
        by_cases h3 : j < i
        · rw [if_pos h3, if_pos (show j < i + 1 by omega)]
        · rw [if_neg h3, if_neg (show ¬ j < i + 1 by omega)]
def raD (w : Nat) (ra : Nat → Nat) : Nat → Nat := fun j => if j < w then ra j else ra (j + 1)
theorem drA_6 {n w : Nat} {ra : Nat → Nat} (hw : w < n) (hn : n ≤ 6) : drA n w ra 6 = rfA (n - 1) (raD w ra) ∧ kp n w 6 = n - 1 := by
  have e : kp n w 6 = n - 1 := by
    unfold kp
    rw [if_neg (by omega)]
    by_cases h : 6 ≤ n
    · rw [if_pos h]; omega
    · rw [if_neg h]
  refine ⟨?_, e⟩
  funext j
  unfold drA rfA raD
  rw [e]
  by_cases h : j < n - 1
  · rw [if_pos h, if_pos h]
  · rw [if_neg h, if_neg h]
    by_cases h2 : j < 6
    · rw [if_pos h2]
    · rw [if_neg h2, if_neg (by omega)]
def sD (s : AS) (q : Nat) : AS := (s.1, s.2.1, up2 s.2.2 q 3 0)
theorem oL_D {s : AS} {w : Nat} (hw : w < nOp s) : oL (sD s (oc s w)) = (oL s).eraseIdx w := by
  have hi : ∀ j, isOp (sD s (oc s w)) j = (isOp s j && (j != oc s w)) := fun j => by
    unfold isOp sD up2
    by_cases e : j = oc s w
    · subst e; simp
    · simp [e]
  have h1 : oL (sD s (oc s w)) = (oL s).filter (· != oc s w) := by
    unfold oL
    rw [List.filter_filter]
    refine List.filter_congr (fun j _ => ?_)
    rw [hi j, Bool.and_comm]
  have hl : w < (oL s).length := by rw [oL_len]; exact hw
  rw [h1, ← (oL_nd s).erase_eq_filter, List.erase_eq_eraseIdx_of_idxOf]
  rw [oc_get hw, List.Nodup.idxOf_getElem (oL_nd s)]
theorem oc_D {s : AS} {w j : Nat} (hw : w < nOp s) : oc (sD s (oc s w)) j = if j < w then oc s j else oc s (j + 1) := by
  unfold oc
  rw [show (oL s).getD w 0 = oc s w from rfl, oL_D hw, List.getD_eq_getElem?_getD, List.getElem?_eraseIdx]
  split <;> rw [List.getD_eq_getElem?_getD]
theorem nOp_D {s : AS} {w : Nat} (hw : w < nOp s) : nOp (sD s (oc s w)) = nOp s - 1 := by
  rw [← oL_len, oL_D hw, List.length_eraseIdx, oL_len, if_pos hw]

