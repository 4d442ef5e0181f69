/-! 34: done, give -/
/-- what dropRide sets -/
def KDr (h : Hp) (nx x : Nat) (s : AS) (ra : Nat → Nat) (w : Nat) : Option Value → Hp → Nat → Prop := fun v h' nx' => v = none ∧ nx = nx' ∧ h' x = some (eO 4 (cobj x (sD s (oc s w)))) ∧ h' (x + 2) = some (eQ 1 6 (rfA (nOp s - 1) (raD w ra))) ∧ ∀ q, q ≠ x → q ≠ x + 2 → h' q = h q
theorem cobj_D {x : Nat} {s : AS} {w : Nat} (hw : w < nOp s) : (cobj x s).set 4 (.int (nI (nOp s - 1))) = cobj x (sD s (oc s w)) := by
  unfold cobj
  rw [nOp_D hw]
  rfl

set_option maxHeartbeats 4000000 in
set_option maxRecDepth 100000 in
theorem ok_c_dropRide (l : Launch) (G : Nat → ClassId) (D : va_G) (base : Nat) {h : Hp} {nx x : Nat} {s : AS} {la ra cs : Nat → Nat} (hA : AI s) (hB : CB h x s la ra cs) {lo w : Nat} (hLo : CLo s x lo nx la ra) (hbx : base ≤ x) {y : Int32} (hw : w < nOp s) (hwy : oc s w = iN y) (hye : y = nI (iN y)) : MetP l G D base miX4_dropRide 0 0 0 [.ref x, .int y] h nx (KDr h nx x s ra w) := by
  refine MetP_of (by decide +kernel) rfl ?_
  intro k g hr hR hcl hcg hcd hcb hcn hnx
  subst hcl; subst hcg; subst hcd; subst hcb
  obtain ⟨⟨hn1, hn2⟩, ht, hnc, hN, -⟩ := id hA
  have hop := hA.2.2.2.2.2.2.1
  show Sf k 0 0 h nx 0 [some (.ref x), some (.int y), none, none, none] []
  have loop : ∀ e i (h1 : Hp), Up1 h h1 (x + 2) (eQ 1 6 (drA (nOp s) w ra i)) → i + e = 6 → Sf k 0 0 h1 nx 4 [some (.ref x), some (.int y), some (.int (nI (kp (nOp s) w i))), some (.int (nI i)), none] [] := by
    intro e
    induction e with
    | zero =>
      intro i h1 hU hi
      have hi2 : i = 6 := by omega
      subst hi2
      obtain ⟨hd6, hk6⟩ := drA_6 (ra := ra) hw hop
      rw [hd6] at hU
      refine r_iload_n g dX4_dropRide_4 rfl ?_
      refine r_aload_n g dX4_dropRide_5 rfl ?_
      refine r_getf g fX4_17 ((hU.2 x (by omega)).trans hB.1) rfl dX4_dropRide_6 ?_
      refine r_alen g hU.1 (by decide) dX4_dropRide_9 ?_
      refine r_icmp_ge 59 g dX4_dropRide_10 (by decide) (fun c10 => ?_) (fun c10 => absurd (show nI 6 ≤ nI 6 by decide) c10)
      refine r_aload_n g dX4_dropRide_59 rfl ?_
      refine r_iload_n g dX4_dropRide_60 rfl ?_
      refine r_topi (y := (nI (nOp s - 1))) (by rw [hk6]) ?_
      refine r_put1 (fs' := cobj x (sD s (oc s w))) g fX4_92 ((hU.2 x (by omega)).trans hB.1) hbx (by show 4 < 8; decide) rfl rfl (cobj_D hw) dX4_dropRide_61 ?_
      intro h_1 hU_2
      exact r_vret g hr (Nat.le_refl _) (Nat.le_refl _) dX4_dropRide_64 ⟨rfl, rfl, hU_2.1, (hU_2.2 _ (by omega)).trans hU.1, fun q h1 h2 => (hU_2.2 q h1).trans (hU.2 q h2)⟩
    | succ e ih =>
      intro i h1 hU hi
      have hkp := kp_le (i := i) hw
      by_cases hii : i < nOp s
      · skip
        have hrl := hLo.2.2.2.2.1 i hii
        have hoc := (oc_at hii).1
        refine r_iload_n g dX4_dropRide_4 rfl ?_
        refine r_aload_n g dX4_dropRide_5 rfl ?_
        refine r_getf g fX4_17 ((hU.2 x (by omega)).trans hB.1) rfl dX4_dropRide_6 ?_
        refine r_alen g hU.1 (by decide) dX4_dropRide_9 ?_
        refine r_icmp_ge 59 g dX4_dropRide_10 (by decide) (fun c10 => absurd c10 (nI_ge (b := 6) (by omega) (by decide))) (fun c10 => ?_)
        refine r_aload_n g dX4_dropRide_13 rfl ?_
        refine r_getf g fX4_17 ((hU.2 x (by omega)).trans hB.1) rfl dX4_dropRide_14 ?_
        refine r_iload_n g dX4_dropRide_17 rfl ?_
        refine r_aaldR (t := 1) (j := i) (v := (ra i)) g hU.1 (by decide) ((drA_at hw).trans (if_pos hii)) rfl (by omega) (by decide) dX4_dropRide_18 ?_
        refine r_astore g dX4_dropRide_19 rfl rfl rfl ?_
        refine r_aload_n g dX4_dropRide_21 rfl ?_
        refine r_getf g fX4_17 ((hU.2 x (by omega)).trans hB.1) rfl dX4_dropRide_22 ?_
        refine r_iload_n g dX4_dropRide_25 rfl ?_
        refine r_null g dX4_dropRide_26 ?_
        refine r_aast1N (t := 1) (j := i) g hU.1 (by decide) (by omega) rfl (by omega) (by decide) dX4_dropRide_27 ?_
        intro h_3 hU_4
        have hU_4 := hU.tr hU_4
        refine r_aload g dX4_dropRide_28 rfl ?_
        refine r_ifnull g dX4_dropRide_30 ?_
        refine r_aload g dX4_dropRide_33 rfl ?_
        refine r_getf g fX4_181 ((hU_4.2 (ra i) (by have := hLo.1; omega)).trans (hB.2.2.2.2 i hii)) rfl dX4_dropRide_35 ?_
        refine r_iload_n g dX4_dropRide_38 rfl ?_
        refine r_icmp_eq 53 g dX4_dropRide_39 (by decide) (fun c39 => ?_) (fun c39 => ?_)
        · skip
          have hiw : i = w := oc_inj hii hw (by rw [hye] at c39; have h9 := (oc_at hw).1; rw [hwy]; exact (nI_c (by omega) (by omega)).mp c39)
          refine r_iinc (v := (nI (i + 1))) g dX4_dropRide_53 rfl (nI_add i 1) rfl rfl ?_
          refine r_goto 4 g dX4_dropRide_56 (by decide) ?_
          obtain ⟨e1, e2⟩ := drA_no (i := i) (ra := ra) hw (Or.inl hiw)
          rw [e1] at hU_4
          refine r_le (ls2 := [some (.ref x), some (.int y), some (.int (nI (kp (nOp s) w (i + 1)))), some (.int (nI (i + 1))), none]) ⟨rfl, rfl, by rw [e2], rfl, trivial⟩ ?_
          exact ih (i + 1) _ hU_4 (by omega)
        · skip
          have hiw : i ≠ w := fun z => c39 (by rw [hye, ← hwy, z]; rfl)
          refine r_aload_n g dX4_dropRide_42 rfl ?_
          refine r_getf g fX4_17 ((hU_4.2 x (by omega)).trans hB.1) rfl dX4_dropRide_43 ?_
          refine r_iload_n g dX4_dropRide_46 rfl ?_
          refine r_aload g dX4_dropRide_47 rfl ?_
          refine r_aast1 (t := 1) (j := kp (nOp s) w i) g hU_4.1 (by decide) ((hU_4.2 (ra i) (by have := hLo.1; omega)).trans (hB.2.2.2.2 i hii)) (by omega) rfl (by omega) (by decide) dX4_dropRide_49 ?_
          intro h_5 hU_6
          have hU_6 := hU_4.tr hU_6
          refine r_iinc (v := (nI (kp (nOp s) w i + 1))) g dX4_dropRide_50 rfl (nI_add (kp (nOp s) w i) 1) rfl rfl ?_
          refine r_iinc (v := (nI (i + 1))) g dX4_dropRide_53 rfl (nI_add i 1) rfl rfl ?_
          refine r_goto 4 g dX4_dropRide_56 (by decide) ?_
          obtain ⟨e1, e2⟩ := drA_yes (ra := ra) hw hiw hii
          rw [e1] at hU_6
          refine r_le (ls2 := [some (.ref x), some (.int y), some (.int (nI (kp (nOp s) w (i + 1)))), some (.int (nI (i + 1))), none]) ⟨rfl, rfl, by rw [e2], rfl, trivial⟩ ?_
          exact ih (i + 1) _ hU_6 (by omega)
      · skip
        refine r_iload_n g dX4_dropRide_4 rfl ?_
        refine r_aload_n g dX4_dropRide_5 rfl ?_
        refine r_getf g fX4_17 ((hU.2 x (by omega)).trans hB.1) rfl dX4_dropRide_6 ?_
        refine r_alen g hU.1 (by decide) dX4_dropRide_9 ?_
        refine r_icmp_ge 59 g dX4_dropRide_10 (by decide) (fun c10 => absurd c10 (nI_ge (b := 6) (by omega) (by decide))) (fun c10 => ?_)
        refine r_aload_n g dX4_dropRide_13 rfl ?_
        refine r_getf g fX4_17 ((hU.2 x (by omega)).trans hB.1) rfl dX4_dropRide_14 ?_
        refine r_iload_n g dX4_dropRide_17 rfl ?_
        refine r_aaldN (t := 1) (j := i) g hU.1 (by decide) ((drA_at hw).trans (if_neg hii)) rfl (by omega) (by decide) dX4_dropRide_18 ?_
        refine r_astoreN g dX4_dropRide_19 rfl rfl rfl ?_
        refine r_aload_n g dX4_dropRide_21 rfl ?_
        refine r_getf g fX4_17 ((hU.2 x (by omega)).trans hB.1) rfl dX4_dropRide_22 ?_
        refine r_iload_n g dX4_dropRide_25 rfl ?_
        refine r_null g dX4_dropRide_26 ?_
        refine r_aast1N (t := 1) (j := i) g hU.1 (by decide) (by omega) rfl (by omega) (by decide) dX4_dropRide_27 ?_
        intro h_7 hU_8
        have hU_8 := hU.tr hU_8
        refine r_aloadN g dX4_dropRide_28 rfl ?_
        refine r_ifnullN 53 g dX4_dropRide_30 (by decide) ?_
        refine r_iinc (v := (nI (i + 1))) g dX4_dropRide_53 rfl (nI_add i 1) rfl rfl ?_
        refine r_goto 4 g dX4_dropRide_56 (by decide) ?_
        obtain ⟨e1, e2⟩ := drA_no (i := i) (ra := ra) hw (Or.inr (Nat.le_of_not_lt hii))
        rw [e1] at hU_8
        refine r_le (ls2 := [some (.ref x), some (.int y), some (.int (nI (kp (nOp s) w (i + 1)))), some (.int (nI (i + 1))), none]) ⟨rfl, rfl, by rw [e2], rfl, trivial⟩ ?_
        exact ih (i + 1) _ hU_8 (by omega)
  refine r_iconst (v := 0) g dX4_dropRide_0 (by decide) ?_
  refine r_istore_n g dX4_dropRide_1 rfl rfl rfl ?_
  refine r_iconst (v := 0) g dX4_dropRide_2 (by decide) ?_
  refine r_istore_n g dX4_dropRide_3 rfl rfl rfl ?_
  have h0 : kp (nOp s) w 0 = 0 := by unfold kp; rw [if_pos (Nat.zero_le _)]
  refine r_le (ls2 := [some (.ref x), some (.int y), some (.int (nI (kp (nOp s) w 0))), some (.int (nI 0)), none]) ⟨rfl, rfl, by rw [h0]; rfl, rfl, trivial⟩ ?_
  exact loop 6 0 h ⟨by rw [drA_0]; exact hB.2.2.1, fun _ _ => rfl⟩ rfl
set_option maxHeartbeats 4000000 in
set_option maxRecDepth 100000 in
theorem ok_c_done (l : Launch) (G : Nat → ClassId) (D : va_G) (base : Nat) (hl : l.stackTraces = false) {h : Hp} {nx x lo : Nat} {s : AS} {r : GR} (hA : AI s) (hCI : CI h x lo nx s r) (hbx : base ≤ x) (y : Int32) : MetX l G D base miX4_done 6 1 6 [.ref x, .int y] h nx (KCr h x lo r true (sDone s y)) (KXr (sDone s y)) := by
  obtain ⟨la, ra, cs, C, Lz, GA, hB, hLo, hCs, hG, hGL, h60⟩ := hCI
  refine MetX_of hl (by decide +kernel) rfl ?_
  intro k g hr hth hR hcl hcg hcd hcb hcn hnx
  subst hcl; subst hcg; subst hcd; subst hcb
  obtain ⟨⟨hn1, hn2⟩, ht, hnc, hN, -⟩ := id hA
  have hop := hA.2.2.2.2.2.2.1
  show Sf k 0 0 h nx 0 [some (.ref x), some (.int y)] []
  by_cases qr : opB s y = true
  · skip
    refine r_aload_n g dX4_done_0 rfl ?_
    refine r_iload_n g dX4_done_1 rfl ?_
    have zr := ok_c_openRide (cL k) (cG k) (cD k) (cBase k) (nx := nx) hA hB y
    rw [show rdB s ra y = some (ra (oi s y)) from if_pos qr] at zr
    refine r_pV g kX4_106 zr hB.1 rfl rfl rfl hnx hR (by decide) (Nat.zero_le _) (Nat.zero_le _) rfl rfl dX4_done_2 ?_
    refine r_ifnonnull 18 g dX4_done_5 (by decide) ?_
    refine r_aload_n g dX4_done_18 rfl ?_
    refine r_iload_n g dX4_done_19 rfl ?_
    have hri := oi_at hA qr
    refine r_callV g kX4_128 (ok_c_dropRide _ _ _ _ hA hB hLo hbx hri.1 hri.2 (opB_at hA qr).2.1) hB.1 rfl rfl rfl hnx hR (by decide) (by decide) (by decide) rfl rfl dX4_done_20 ?_
    rintro v9 h9 nx9 ⟨rfl, rfl, hx1, hx2, hxf⟩ -
    have he : sDone s y = (0, 0, sD s (oc s (oi s y))) := by rw [hri.2]; unfold sDone; rw [if_neg (by rw [qr]; decide)]; rfl
    refine r_vret g hr (by decide) (by decide) dX4_done_23 ⟨by rw [he], rfl, ?_, fun q hq => hxf q (by omega) (by have := hLo.1; omega)⟩
    rw [he]
    have hn9 := nOp_D hri.1
    have h17 := hLo.1
    have hir : ∀ j, j < nOp s - 1 → ∃ i, i < nOp s ∧ raD (oi s y) ra j = ra i ∧ oc (sD s (oc s (oi s y))) j = oc s i ∧ j ≤ i ∧ i ≤ j + 1 ∧ (j < oi s y → i = j) ∧ (oi s y ≤ j → i = j + 1) := fun j hj => by
      by_cases e : j < oi s y
      · exact ⟨j, by omega, by unfold raD; rw [if_pos e], by rw [oc_D hri.1, if_pos e], by omega, by omega, fun _ => rfl, fun z => by omega⟩
      · exact ⟨j + 1, by omega, by unfold raD; rw [if_neg e], by rw [oc_D hri.1, if_neg e], by omega, by omega, fun z => by omega, fun _ => rfl⟩
    refine ⟨la, raD (oi s y) ra, cs, C, Lz, GA, ⟨hx1, (hxf _ (by omega) (by omega)).trans hB.2.1, by rw [hn9]; exact hx2, fun c hc => ?_, fun j hj => ?_⟩, ⟨hLo.1, hLo.2.1, hLo.2.2.1, hLo.2.2.2.1, fun j hj => ?_, fun i j hij hj => ?_, fun c j hc hj => ?_⟩, hCs, ⟨(hxf _ (by omega) (by omega)).trans hG.1, fun kf hk => (hxf _ (by omega) (by omega)).trans (hG.2 kf hk)⟩, hGL, h60⟩
    · obtain ⟨h1, W, CO, FI, h2, h3⟩ := hB.2.2.2.1 c hc
      have hl := hLo.2.2.1 c hc
      exact ⟨(hxf _ (by omega) (by omega)).trans h1, W, CO, FI, ⟨(hxf _ (by omega) (by omega)).trans h2.1, (hxf _ (by omega) (by omega)).trans h2.2.1, (hxf _ (by omega) (by omega)).trans h2.2.2⟩, h3⟩
    · rw [hn9] at hj
      obtain ⟨i, hi, e1, e2, -⟩ := hir j hj
      have hl := hLo.2.2.2.2.1 i hi
      rw [e1, e2]
      refine ((hxf _ (by omega) (by omega)).trans (hB.2.2.2.2 i hi)).trans ?_
      unfold dobj rfS sD up2
      simp
    · rw [hn9] at hj
      obtain ⟨i, hi, e1, -⟩ := hir j hj
      rw [e1]; exact hLo.2.2.2.2.1 i hi
    · rw [hn9] at hj
      obtain ⟨i1, hi1, e1, -, a1, a2, a3, a4⟩ := hir i (by omega)
      obtain ⟨i2, hi2, e2, -, b1, b2, b3, b4⟩ := hir j hj
      rw [e1, e2]
      exact hLo.2.2.2.2.2.1 i1 i2 (by by_cases z : i < oi s y <;> by_cases z2 : j < oi s y <;> omega) hi2
    · rw [hn9] at hj
      obtain ⟨i, hi, e1, -⟩ := hir j hj
      rw [e1]; exact hLo.2.2.2.2.2.2 c i hc hi
  · skip
    refine r_aload_n g dX4_done_0 rfl ?_
    refine r_iload_n g dX4_done_1 rfl ?_
    have zr := ok_c_openRide (cL k) (cG k) (cD k) (cBase k) (nx := nx) hA hB y
    rw [show rdB s ra y = none from if_neg qr] at zr
    refine r_pV g kX4_106 zr hB.1 rfl rfl rfl hnx hR (by decide) (Nat.zero_le _) (Nat.zero_le _) rfl rfl dX4_done_2 ?_
    refine r_ifnonnullN g dX4_done_5 ?_
    exact r_thrI g hth (Or.inl ⟨by show (sDone s y).1 = 1; unfold sDone; rw [if_pos (by simpa using qr)], rfl⟩) (Nat.le_refl _) (List.mem_of_getElem? (i := 7) rfl) hR (by decide) (by decide) (by decide) rfl dX4_done_8 dX4_done_11 dX4_done_12 dX4_done_14 dX4_done_17
theorem CB.gv {h h' : Hp} {x lo nx : Nat} {s : AS} {la ra cs : Nat → Nat} (hB : CB h x s la ra cs) (hLo : CLo s x lo nx la ra) (f : Fr (x + 3) 14 h h') : CB h' x s la ra cs := by
  have h17 := hLo.1
  refine ⟨(f _ (by omega)).trans hB.1, (f _ (by omega)).trans hB.2.1, (f _ (by omega)).trans hB.2.2.1, fun c hc => ?_, fun i hi => (f _ (by have := hLo.2.2.2.2.1 i hi; omega)).trans (hB.2.2.2.2 i hi)⟩
  obtain ⟨h1, W, CO, FI, h2, h3⟩ := hB.2.2.2.1 c hc
  have hl := hLo.2.2.1 c hc
  exact ⟨(f _ (by omega)).trans h1, W, CO, FI, h2.fr f (by omega), h3⟩
/-- the calls to be given, of the first i open ones -/
def gLo (s : AS) (i : Nat) : List Nat := ((oL s).take i).filter (fun q => !decide (carsN s q = 0))
theorem gLo_all (s : AS) {i : Nat} (h : nOp s ≤ i) : gLo s i = gL s := by
  unfold gLo gL
  rw [List.take_of_length_le (by rw [oL_len]; exact h)]
  unfold oL
  rw [List.filter_filter]
  exact List.filter_congr (fun q _ => by unfold gB; rw [Bool.and_comm])
theorem gLo_le (s : AS) (i : Nat) : (gLo s i).length ≤ i := by
  unfold gLo
  refine Nat.le_trans (List.length_filter_le _ _) ?_
  rw [List.length_take]
  exact Nat.min_le_left _ _
theorem gLo_s {s : AS} {i : Nat} (h : i < nOp s) : gLo s (i + 1) = gLo s i ++ (if carsN s (oc s i) = 0 then [] else [oc s i]) := by
  unfold gLo
  have hl : i < (oL s).length := by rw [oL_len]; exact h
  rw [List.take_succ_eq_append_getElem hl, List.filter_append, ← oc_get h]
  by_cases e : carsN s (oc s i) = 0
  · rw [if_pos e]; simp [e]
  · rw [if_neg e]; simp [e]
theorem gLo_n {s : AS} {i : Nat} (h : ¬ i < nOp s) : gLo s (i + 1) = gLo s i := by rw [gLo_all s (by omega), gLo_all s (by omega)]
def GI (s : AS) (l : List Nat) (C : Int32) (GA : Nat → Nat → Int32) : Prop := C = nI l.length ∧ (∀ q, q < l.length → GA 0 q = nI (s.2.2 (l.getD q 0) 0) ∧ GA 1 q = nI (s.2.2 (l.getD q 0) 1) ∧ GA 2 q = nI (wgt s (l.getD q 0)) ∧ GA 8 q = nI (l.getD q 0) ∧ GA 9 q = nI (carsN s (l.getD q 0)) ∧ GA 10 q = beI (s.2.2 (l.getD q 0) 5)) ∧ GA 6 0 = 0 ∧ ∀ j, j < 24 → GA 11 j = -1
theorem GI.add {s : AS} {l : List Nat} {C C2 : Int32} {GA : Nat → Nat → Int32} (h : GI s l C GA) (q : Nat) (hC : C2 = nI (l.length + 1)) : GI s (l ++ [q]) C2 (addA GA l.length (rfS s q) (nI (wgt s q)) (nI (carsN s q))) := by
  refine ⟨by rw [List.length_append]; exact hC, fun j hj => ?_, ?_, fun j hj => ?_⟩
  · rw [List.length_append] at hj
    have hj2 : j < l.length + 1 := hj
    unfold addA
    by_cases e : j = l.length
    · subst e
      have e9 : (l ++ [q]).getD l.length 0 = q := by rw [List.getD_eq_getElem?_getD, List.getElem?_append_right (Nat.le_refl _), Nat.sub_self]; rfl
      rw [e9]
      exact ⟨pk_us, pk_us, pk_us, pk_us, pk_us, pk_us⟩
    · have e9 : (l ++ [q]).getD j 0 = l.getD j 0 := by rw [List.getD_eq_getElem?_getD, List.getElem?_append_left (by omega), ← List.getD_eq_getElem?_getD]
      rw [e9]
      have h9 := h.2.1 j (by omega)
      exact ⟨(pk_un e).trans h9.1, (pk_un e).trans h9.2.1, (pk_un e).trans h9.2.2.1, (pk_un e).trans h9.2.2.2.1, (pk_un e).trans h9.2.2.2.2.1, (pk_un e).trans h9.2.2.2.2.2⟩
  · unfold addA
    rw [upA_ne (by decide), upA_ne (by decide), upA_ne (by decide), upA_ne (by decide), upA_ne (by decide), upA_ne (by decide)]
    exact h.2.2.1
  · unfold addA
    rw [upA_ne (by decide), upA_ne (by decide), upA_ne (by decide), upA_ne (by decide), upA_ne (by decide), upA_ne (by decide)]
    exact h.2.2.2 j hj
theorem GI.gf {s : AS} {C : Int32} {GA : Nat → Nat → Int32} (h : GI s (gL s) C GA) : GF s GA := fun i hi => h.2.1 i hi
theorem GLr_of {s : AS} (hA : AI s) {C C' : Int32} {Lz' : Int64} {GA GA' : Nat → Nat → Int32} (h : GI s (gL s) C GA) (q : QMk s GA C' Lz' GA') : GLr (gres s) C' GA' := by
  obtain ⟨hC, -, hsame, -, hx, hrow⟩ := q
  have hF := h.gf
  have h8 : ∀ i, i < gn s → GA' 8 i = nI (gk s i) := fun i hi => by rw [hsame 8 (by omega)]; exact (hF i hi).2.2.2.1
  have hN := hA.2.2.2.1
  have hnc := hA.2.2.1
  refine ⟨gn s, gn_le hA, hC, fun i j hi hj e => ?_, fun y hy => ?_, fun c j hc hj => ?_, fun c hc => ?_⟩
  · rw [h8 i hi, h8 j hj] at e
    have g1 := (gk_at hi).1
    have g2 := (gk_at hj).1
    exact gk_inj hi hj ((nI_c (by omega) (by omega)).mp e)
  · by_cases e : (gL s).idxOf y < gn s
    · refine Or.inr ⟨(gL s).idxOf y, e, ?_, ?_, ?_⟩
      · rw [h8 _ e]
        congr 1
        unfold gk
        rw [List.getD_eq_getElem?_getD, List.getElem?_eq_getElem e]
        exact List.getElem_idxOf e
      · show (if (gL s).idxOf y < gn s then (gd s).getD ((gL s).idxOf y) 0 else 4) < 4
        rw [if_pos e]
        exact Nat.lt_of_lt_of_le (gd_at hA e).1 hnc
      · have h9 := hx _ e
        have e0 : (gres s).1 y 0 = (gd s).getD ((gL s).idxOf y) 0 := if_pos e
        have e1 : (gres s).1 y 1 = (gE s ((gd s).getD ((gL s).idxOf y) 0) ((gL s).idxOf y)).1 := if_pos e
        have e2 : (gres s).1 y 2 = (gE s ((gd s).getD ((gL s).idxOf y) 0) ((gL s).idxOf y)).2 := if_pos e
        have e3 : (gres s).1 y 3 = gw s ((gL s).idxOf y) := if_pos e
        rw [e0, e1, e2, e3]
        exact ⟨h9.1, h9.2.1, h9.2.2, by rw [hsame 2 (by omega)]; exact (hF _ e).2.2.1⟩
    · refine Or.inl ⟨if_neg e, fun i hi z => e ?_⟩
      rw [h8 i hi] at z
      have g1 := (gk_at hi).1
      have z2 := (nI_c (by omega) (by omega)).mp z
      exact List.idxOf_lt_length_iff.mpr (by rw [← z2]; exact gk_mem hi)
  · rw [hrow c j hc hj]
    show _ = if j < (gRow s c).length then nI (gk s ((gRow s c).getD j 0)) else -1
    by_cases e : j < (gRow s c).length
    · rw [if_pos e, if_pos e]
    · rw [if_neg e, if_neg e]; exact h.2.2.2 _ (by omega)
  · exact gRow_len6 hA c
/-- behind a giving -/
def KCg (h : Hp) (nx x lo : Nat) (s : AS) : Option Value → Hp → Nat → Prop := fun v h' nx' => v = some (.long (lN (gsum s))) ∧ nx = nx' ∧ CI h' x lo nx s (gres s) ∧ FrX x lo h h'

set_option maxHeartbeats 4000000 in
set_option maxRecDepth 100000 in
theorem ok_c_give (l : Launch) (G : Nat → ClassId) (D : va_G) (base : Nat) {h : Hp} {nx x lo : Nat} {s : AS} {r : GR} (hA : AI s) (hCI : CI h x lo nx s r) (hbx : base ≤ x) : MetP l G D base miX4_give 10 0 0 [.ref x] h nx (KCg h nx x lo s) := by
  refine MetP_of (by decide +kernel) rfl ?_
  intro k g hr hR hcl hcg hcd hcb hcn hnx
  subst hcl; subst hcg; subst hcd; subst hcb
  obtain ⟨la, ra, cs, C, Lz, GA, hB, hLo, hCs, hG, hGL, h60⟩ := hCI
  have h17 := hLo.1
  obtain ⟨⟨hn1, hn2⟩, ht, hnc, hN, -⟩ := id hA
  have hop := hA.2.2.2.2.2.2.1
  show Sf k 0 0 h nx 0 [some (.ref x), none, none, none, none, none] []
  have loop : ∀ e i (C1 : Int32) (GA1 : Nat → Nat → Int32) (h1 : Hp), GS h h1 (x + 3) C1 Lz GA1 → i + e = 6 → GI s (gLo s i) C1 GA1 → Sf k 0 0 h1 nx 17 [some (.ref x), some (.ref (x + 2)), some (.int (nI 6)), some (.int (nI i)), none, none] [] := by
    intro e
    induction e with
    | zero =>
      intro i C1 GA1 h1 hG1 hi hI
      have hB1 := hB.gv hLo hG1.2
      rw [gLo_all s (by omega)] at hI
      have hO : LO s (x + 1) (x + 3) la := ⟨by omega, fun c hc => by have := hLo.2.2.1 c hc; omega, hLo.2.2.2.1⟩
      have hLW : LW h1 s (x + 1) la (fun c => lfS s cs c) 0 := ⟨hB1.2.1, fun c hc => by
        obtain ⟨z1, W, CO, FI, z2, z3⟩ := hB1.2.2.2.1 c hc
        exact ⟨z1, W, CO, FI, z2, z3, fun y => absurd y (Nat.not_lt_zero _)⟩⟩
      have hLF : ∀ c, c < s.1 2 → lfS s cs c 0 = nI (s.2.1 c 0) ∧ lfS s cs c 1 = nI (s.2.1 c 1) ∧ lfS s cs c 2 = nI (cs c) ∧ cs c < 2 ^ 31 ∧ cs c - s.1 1 = gdl s c := fun c hc => ⟨rfl, rfl, rfl, by have := (hCs c hc).1; omega, (hCs c hc).2⟩
      refine r_iload_n g dX4_give_17 rfl ?_
      refine r_iload_n g dX4_give_18 rfl ?_
      refine r_icmp_ge 68 g dX4_give_19 (by decide) (fun c19 => ?_) (fun c19 => absurd (nI_le (a := 6) (by omega) (by omega)) c19)
      refine r_aload_n g dX4_give_68 rfl ?_
      refine r_getf g fX4_24 hB1.1 rfl dX4_give_69 ?_
      refine r_aload_n g dX4_give_72 rfl ?_
      refine r_getf g fX4_11 hB1.1 rfl dX4_give_73 ?_
      refine r_aload_n g dX4_give_76 rfl ?_
      refine r_getf g fX4_100 hB1.1 rfl dX4_give_77 ?_
      refine r_callV g kX4_148 (ok_g_make _ _ _ _ s hA (xl := x + 1) (la := la) (LF := fun c => lfS s cs c) (cs := cs) hI.1 hI.gf hI.2.2.1 hO hLW hLF hG1.1 (by omega)) hG1.1.1 rfl rfl rfl hnx hR (by decide) (Nat.zero_le _) (Nat.zero_le _) rfl rfl dX4_give_80 ?_
      rintro v9 h_1 nx9 ⟨rfl, rfl, C9, Lz9, GA9, hGm, hQm, hLm, hFm⟩ -
      have h17 := hLo.1
      refine r_lret g hr (Nat.le_refl _) (Nat.le_refl _) dX4_give_83 ⟨rfl, rfl, ⟨la, ra, cs, C9, Lz9, GA9, ⟨(hFm _ (by omega) (fun c hc => by have := hLo.2.2.1 c hc; omega)).trans hB1.1, hLm.1, (hFm _ (by omega) (fun c hc => by have := hLo.2.2.1 c hc; omega)).trans hB1.2.2.1, fun c hc => ?_, fun j hj => (hFm _ (by have := hLo.2.2.2.2.1 j hj; omega) (fun c hc => by have := hLo.2.2.2.2.2.2 c j hc hj; omega)).trans (hB1.2.2.2.2 j hj)⟩, hLo, hCs, hGm, GLr_of hA hI hQm, hQm.2.2.2.1⟩, fun q hq => (hFm q (by omega) (fun c hc => by have := hLo.2.2.1 c hc; omega)).trans (hG1.2 q (by omega))⟩
      obtain ⟨z1, W, CO, FI, z2, z3, -⟩ := hLm.2 c hc
      exact ⟨z1, W, CO, FI, z2, z3⟩
    | succ e ih =>
      intro i C1 GA1 h1 hG1 hi hI
      have hB1 := hB.gv hLo hG1.2
      have hll := gLo_le s i
      by_cases hii : i < nOp s
      · skip
        have hrl := hLo.2.2.2.2.1 i hii
        have hoc := (oc_at hii).1
        have hcl := carsN_lt hA (oc s i)
        refine r_iload_n g dX4_give_17 rfl ?_
        refine r_iload_n g dX4_give_18 rfl ?_
        refine r_icmp_ge 68 g dX4_give_19 (by decide) (fun c19 => absurd c19 (nI_ge (b := 6) (by omega) (by decide))) (fun c19 => ?_)
        refine r_aload_n g dX4_give_22 rfl ?_
        refine r_iload_n g dX4_give_23 rfl ?_
        refine r_aaldR (t := 1) (j := i) (v := (ra i)) g hB1.2.2.1 (by decide) (if_pos hii) rfl (by omega) (by decide) dX4_give_24 ?_
        refine r_astore g dX4_give_25 rfl rfl rfl ?_
        refine r_aload g dX4_give_27 rfl ?_
        refine r_ifnull g dX4_give_29 ?_
        refine r_aload_n g dX4_give_32 rfl ?_
        refine r_aload g dX4_give_33 rfl ?_
        refine r_pV g kX4_137 (ok_c_ableCars _ _ _ _ hA hB1 (q := (oc s i)) hoc (hB1.2.2.2.2 i hii)) hB1.1 rfl rfl rfl hnx hR (by decide) (Nat.zero_le _) (Nat.zero_le _) rfl rfl dX4_give_35 ?_
        refine r_istore g dX4_give_38 rfl rfl rfl ?_
        refine r_iload g dX4_give_40 rfl ?_
        refine r_if_eq 62 g dX4_give_42 (by decide) (fun c42 => ?_) (fun c42 => ?_)
        · skip
          have q := eq0 (by omega) c42
          refine r_iinc (v := (nI (i + 1))) g dX4_give_62 rfl (nI_add i 1) rfl rfl ?_
          refine r_goto 17 g dX4_give_65 (by decide) ?_
          refine r_le (ls2 := [some (.ref x), some (.ref (x + 2)), some (.int (nI 6)), some (.int (nI (i + 1))), none, none]) ⟨rfl, rfl, rfl, rfl, trivial⟩ ?_
          refine ih (i + 1) _ _ _ hG1 (by omega) ?_
          rw [gLo_s hii, if_pos q, List.append_nil]
          exact hI
        · skip
          have q : ¬ carsN s (oc s i) = 0 := fun z => c42 (by rw [z]; rfl)
          refine r_aload_n g dX4_give_45 rfl ?_
          refine r_getf g fX4_24 hB1.1 rfl dX4_give_46 ?_
          refine r_aload g dX4_give_49 rfl ?_
          refine r_aload_n g dX4_give_51 rfl ?_
          refine r_aload g dX4_give_52 rfl ?_
          refine r_pV g kX4_141 (ok_c_weightNow _ _ _ _ hA hB1 (i := i) hii (hB1.2.2.2.2 i hii)) hB1.1 rfl rfl rfl hnx hR (by decide) (Nat.zero_le _) (Nat.zero_le _) rfl rfl dX4_give_54 ?_
          refine r_iload g dX4_give_57 rfl ?_
          refine r_callV g kX4_144 (ok_g_add _ _ _ _ (n := (gLo s i).length) (RF := rfS s (oc s i)) hI.1 (by omega) hG1.1 (hB1.2.2.2.2 i hii) (by omega) (by omega) _ _) hG1.1.1 rfl rfl rfl hnx hR (by decide) (Nat.zero_le _) (Nat.zero_le _) rfl rfl dX4_give_59 ?_
          rintro v9 h_2 nx9 ⟨rfl, rfl, C9, Lz9, GA9, hG9, hC9, rfl, rfl⟩ -
          refine r_iinc (v := (nI (i + 1))) g dX4_give_62 rfl (nI_add i 1) rfl rfl ?_
          refine r_goto 17 g dX4_give_65 (by decide) ?_
          refine r_le (ls2 := [some (.ref x), some (.ref (x + 2)), some (.int (nI 6)), some (.int (nI (i + 1))), none, none]) ⟨rfl, rfl, rfl, rfl, trivial⟩ ?_
          refine ih (i + 1) _ _ _ (hG1.then hG9) (by omega) ?_
          rw [gLo_s hii, if_neg q]
          exact hI.add _ hC9
      · skip
        refine r_iload_n g dX4_give_17 rfl ?_
        refine r_iload_n g dX4_give_18 rfl ?_
        refine r_icmp_ge 68 g dX4_give_19 (by decide) (fun c19 => absurd c19 (nI_ge (b := 6) (by omega) (by decide))) (fun c19 => ?_)
        refine r_aload_n g dX4_give_22 rfl ?_
        refine r_iload_n g dX4_give_23 rfl ?_
        refine r_aaldN (t := 1) (j := i) g hB1.2.2.1 (by decide) (if_neg hii) rfl (by omega) (by decide) dX4_give_24 ?_
        refine r_astoreN g dX4_give_25 rfl rfl rfl ?_
        refine r_aloadN g dX4_give_27 rfl ?_
        refine r_ifnullN 62 g dX4_give_29 (by decide) ?_
        refine r_iinc (v := (nI (i + 1))) g dX4_give_62 rfl (nI_add i 1) rfl rfl ?_
        refine r_goto 17 g dX4_give_65 (by decide) ?_
        refine r_le (ls2 := [some (.ref x), some (.ref (x + 2)), some (.int (nI 6)), some (.int (nI (i + 1))), none, none]) ⟨rfl, rfl, rfl, rfl, trivial⟩ ?_
        refine ih (i + 1) _ _ _ hG1 (by omega) ?_
        rw [gLo_n hii]
        exact hI
  refine r_aload_n g dX4_give_0 rfl ?_
  refine r_getf g fX4_24 hB.1 rfl dX4_give_1 ?_
  refine r_callV g kX4_134 (ok_g_clear _ _ _ _ hG (by omega)) hG.1 rfl rfl rfl hnx hR (by decide) (Nat.zero_le _) (Nat.zero_le _) rfl rfl dX4_give_4 ?_
  rintro v9 h_3 nx9 ⟨rfl, rfl, C9, Lz9, GA9, hG9, rfl, rfl, hf9, hm9⟩ -
  refine r_aload_n g dX4_give_7 rfl ?_
  refine r_getf g fX4_17 (hB.gv hLo hG9.2).1 rfl dX4_give_8 ?_
  refine r_astore_n g dX4_give_11 rfl rfl rfl ?_
  refine r_aload_n g dX4_give_12 rfl ?_
  refine r_alen g (hB.gv hLo hG9.2).2.2.1 (by decide) dX4_give_13 ?_
  refine r_istore_n g dX4_give_14 rfl rfl rfl ?_
  refine r_iconst (v := 0) g dX4_give_15 (by decide) ?_
  refine r_istore_n g dX4_give_16 rfl rfl rfl ?_
  refine r_le (ls2 := [some (.ref x), some (.ref (x + 2)), some (.int (nI 6)), some (.int (nI 0)), none, none]) ⟨rfl, rfl, rfl, rfl, trivial⟩ ?_
  exact loop 6 0 _ GA9 _ hG9 rfl ⟨rfl, fun q hq => absurd hq (Nat.not_lt_zero _), by rw [hf9 6 (by decide)]; exact h60, hm9⟩
