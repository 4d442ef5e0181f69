/-! 37: car, call -/
theorem CB.newL {h h2 h3 h4 : Hp} {x lo nx : Nat} {s : AS} {la ra cs : Nat → Nat} (hA : AI s) (hB : CB h x s la ra cs) (hLo : CLo s x lo nx la ra) (h4c : s.1 2 < 4) {f p : Int32} (hf : f = nI (iN f)) (hp : p = nI (iN p)) (hq : ∀ q, q < nx → h2 q = h q) (hl : h2 nx = some (eO 1 [.int p, .int f, .int 0, .int 0, .int (nI (s.1 0) - 1), .int 0, .ref (nx + 1)])) (hr : RO h2 (nx + 1) (fun _ => 0) (fun _ => 0) (fun _ => 0)) (u3 : Up1 h2 h3 (x + 1) (eQ 0 4 (va_up (lfA s la) (s.1 2) (some nx)))) {fs : List Value} (u4 : Up1 h3 h4 x (eO 4 fs)) (hfs : fs = cobj x (up1 s.1 2 (s.1 2 + 1), fun c => if c = s.1 2 then newCar s f p else s.2.1 c, s.2.2)) :
    CB h4 x (up1 s.1 2 (s.1 2 + 1), fun c => if c = s.1 2 then newCar s f p else s.2.1 c, s.2.2) (fun c => if c = s.1 2 then nx else la c) ra (fun c => if c = s.1 2 then 0 else cs c) := by
  have h17 := hLo.1
  have hln := hLo.2.1
  have hn1 := hA.1.1
  have tr : ∀ q, q ≠ x → q ≠ x + 1 → h4 q = h2 q := fun q a b => (u4.2 q a).trans (u3.2 q b)
  refine ⟨by rw [← hfs]; exact u4.1, ?_, ?_, fun c hc => ?_, fun i hi => ?_⟩
  · rw [u4.2 _ (by omega), u3.1]
    congr 2
    funext c
    show (if c = s.1 2 then some nx else if c < s.1 2 then some (la c) else none) = if c < s.1 2 + 1 then some (if c = s.1 2 then nx else la c) else none
    by_cases e : c = s.1 2
    · rw [if_pos e, if_pos (by omega), if_pos e]
    · rw [if_neg e]
      by_cases e2 : c < s.1 2
      · rw [if_pos e2, if_pos (show c < s.1 2 + 1 by omega), if_neg e]
      · rw [if_neg e2, if_neg (show ¬ c < s.1 2 + 1 by omega)]
  · rw [tr _ (by omega) (by omega), hq _ (by omega)]
    exact hB.2.2.1
  · have hc2 : c < s.1 2 + 1 := hc
    by_cases e : c = s.1 2
    · subst e
      refine ⟨?_, fun _ => 0, fun _ => 0, fun _ => 0, ?_, fun _ _ => rfl⟩
      · show h4 (if s.1 2 = s.1 2 then nx else la (s.1 2)) = some (eO 1 (lobj (if s.1 2 = s.1 2 then nx else la (s.1 2)) _))
        rw [if_pos rfl, tr _ (by omega) (by omega), hl]
        congr 2
        unfold lobj lfS
        simp only [if_pos]
        rw [show nI (s.1 0) - 1 = nI (s.1 0 - 1) by rw [show s.1 0 = s.1 0 - 1 + 1 by omega]; exact nI_pred _]
        show _ = [Value.int (nI (iN p)), Value.int (nI (iN f)), _, _, _, _, _]
        rw [← hp, ← hf]
        rfl
      · show RO h4 ((if s.1 2 = s.1 2 then nx else la (s.1 2)) + 1) _ _ _
        rw [if_pos rfl]
        exact ⟨(tr _ (by omega) (by omega)).trans hr.1, (tr _ (by omega) (by omega)).trans hr.2.1, (tr _ (by omega) (by omega)).trans hr.2.2⟩
    · obtain ⟨h1, W, CO, FI, h2, h3⟩ := hB.2.2.2.1 c (by omega)
      have hl9 := hLo.2.2.1 c (by omega)
      show h4 (if c = s.1 2 then nx else la c) = some (eO 1 (lobj (if c = s.1 2 then nx else la c) _)) ∧ ∃ W CO FI, RO h4 ((if c = s.1 2 then nx else la c) + 1) W CO FI ∧ _
      rw [if_neg e]
      refine ⟨((tr _ (by omega) (by omega)).trans ((hq _ (by omega)).trans h1)).trans ?_, W, CO, FI, ⟨(tr _ (by omega) (by omega)).trans ((hq _ (by omega)).trans h2.1), (tr _ (by omega) (by omega)).trans ((hq _ (by omega)).trans h2.2.1), (tr _ (by omega) (by omega)).trans ((hq _ (by omega)).trans h2.2.2)⟩, h3⟩
      unfold lobj lfS
      simp [e]
  · have hl9 := hLo.2.2.2.2.1 i hi
    exact (tr _ (by omega) (by omega)).trans ((hq _ (by omega)).trans (hB.2.2.2.2 i hi))
theorem CLo.newL {x lo nx : Nat} {s s' : AS} {la ra : Nat → Nat} (hLo : CLo s x lo nx la ra) (h2 : s'.1 2 = s.1 2 + 1) (hn : nOp s' = nOp s) : CLo s' x lo (nx + 4) (fun c => if c = s.1 2 then nx else la c) ra := by
  unfold CLo
  rw [h2, hn]
  have hln := hLo.2.1
  have hl : ∀ c, (if c = s.1 2 then nx else la c) = la c ∨ (c = s.1 2 ∧ (if c = s.1 2 then nx else la c) = nx) := fun c => by
    by_cases e : c = s.1 2
    · rw [if_pos e]; exact Or.inr ⟨e, rfl⟩
    · rw [if_neg e]; exact Or.inl rfl
  refine ⟨hLo.1, by omega, fun c hc => ?_, fun c c' h h' => ?_, fun i hi => ?_, hLo.2.2.2.2.2.1, fun c i hc hi => ?_⟩
  · by_cases e : c = s.1 2
    · simp only [if_pos e]; omega
    · have := hLo.2.2.1 c (by omega); simp only [if_neg e]; omega
  · have hce : c ≠ s.1 2 := by omega
    simp only [if_neg hce]
    by_cases e : c' = s.1 2
    · have := hLo.2.2.1 c (by omega); simp only [if_pos e]; omega
    · have := hLo.2.2.2.1 c c' h (by omega); simp only [if_neg e]; omega
  · have := hLo.2.2.2.2.1 i hi; omega
  · by_cases e : c = s.1 2
    · have := hLo.2.2.2.2.1 i hi; simp only [if_pos e]; omega
    · have := hLo.2.2.2.2.2.2 c i (by omega) hi; simp only [if_neg e]; omega

set_option maxHeartbeats 4000000 in
set_option maxRecDepth 100000 in
theorem ok_c_car (l : Launch) (G : Nat → ClassId) (D : va_G) (base : Nat) (hl : l.stackTraces = false) {h : Hp} {nx x lo : Nat} {s : AS} {r : GR} (hA : AI s) (hCI : CI h x lo nx s r) (hbx : base ≤ x) (f p : Int32) : MetX l G D base miX4_car 6 4 909 [.ref x, .int f, .int p] h nx (KCr h x lo r false (sCar s f p)) (KXr (sCar s f p)) := by
  obtain ⟨la, ra, cs, C, Lz, GA, hB, hLo, hCs, hG, hGL, h60⟩ := hCI
  refine MetX_of hl (by decide +kernel) rfl ?_
  intro k g hr hth hR hcl hcg hcd hcb hcn hnx
  subst hcl; subst hcg; subst hcd; subst hcb
  obtain ⟨⟨hn1, hn2⟩, ht, hnc, hN, -⟩ := id hA
  have hop := hA.2.2.2.2.2.2.1
  have h17 := hLo.1
  have hln := hLo.2.1
  show Sf k 0 0 h nx 0 [some (.ref x), some (.int f), some (.int p)] []
  refine r_aload_n g dX4_car_0 rfl ?_
  refine r_iload_n g dX4_car_1 rfl ?_
  refine r_pV g kX4_41 (ok_c_isFloor _ _ _ _ hA hB f) hB.1 rfl rfl rfl hnx hR (by decide) (Nat.zero_le _) (Nat.zero_le _) rfl rfl dX4_car_2 ?_
  refine r_if_eq 18 g dX4_car_5 (by decide) (fun c5 => ?_) (fun c5 => ?_)
  · skip
    have q := b2_f c5
    have hf : (inB f (s.1 0) && inR p 1 5) = false := by first | (rw [q]; rfl) | (rw [Bool.and_eq_false_iff]; exact Or.inr (decide_eq_false (fun z => by first | exact absurd c10 (Int32.not_lt.mpr z.1) | exact c15 z.2)))
    exact r_thrI g hth (Or.inl ⟨by show (sCar s f p).1 = 1; unfold sCar; rw [if_pos hf], rfl⟩) (Nat.le_refl _) (List.mem_of_getElem? (i := 0) rfl) hR (by decide) (by decide) (by decide) rfl dX4_car_18 dX4_car_21 dX4_car_22 dX4_car_24 dX4_car_27
  · skip
    have q := b2_t c5
    refine r_iload_n g dX4_car_8 rfl ?_
    refine r_iconst (v := 1) g dX4_car_9 (by decide) ?_
    refine r_icmp_lt 18 g dX4_car_10 (by decide) (fun c10 => ?_) (fun c10 => ?_)
    · skip
      have hf : (inB f (s.1 0) && inR p 1 5) = false := by first | (rw [q]; rfl) | (rw [Bool.and_eq_false_iff]; exact Or.inr (decide_eq_false (fun z => by first | exact absurd c10 (Int32.not_lt.mpr z.1) | exact c15 z.2)))
      exact r_thrI g hth (Or.inl ⟨by show (sCar s f p).1 = 1; unfold sCar; rw [if_pos hf], rfl⟩) (Nat.le_refl _) (List.mem_of_getElem? (i := 0) rfl) hR (by decide) (by decide) (by decide) rfl dX4_car_18 dX4_car_21 dX4_car_22 dX4_car_24 dX4_car_27
    · skip
      refine r_iload_n g dX4_car_13 rfl ?_
      refine r_iconst (v := 5) g dX4_car_14 (by decide) ?_
      refine r_icmp_le 28 g dX4_car_15 (by decide) (fun c15 => ?_) (fun c15 => ?_)
      · skip
        have hin : inR p 1 5 = true := decide_eq_true ⟨Int32.not_lt.mp c10, c15⟩
        have hf : (inB f (s.1 0) && inR p 1 5) = true := by rw [q, hin]; rfl
        refine r_aload_n g dX4_car_28 rfl ?_
        refine r_getf g fX4_52 hB.1 rfl dX4_car_29 ?_
        refine r_aload_n g dX4_car_32 rfl ?_
        refine r_getf g fX4_11 hB.1 rfl dX4_car_33 ?_
        refine r_alen g hB.2.1 (by decide) dX4_car_36 ?_
        refine r_icmp_lt 50 g dX4_car_37 (by decide) (fun c37 => ?_) (fun c37 => ?_)
        · skip
          have h4c : s.1 2 < 4 := (nI_ltI (by omega) (by decide)).mp c37
          refine r_aload_n g dX4_car_50 rfl ?_
          refine r_getf g fX4_11 hB.1 rfl dX4_car_51 ?_
          refine r_aload_n g dX4_car_54 rfl ?_
          refine r_getf g fX4_52 hB.1 rfl dX4_car_55 ?_
          refine r_new1 (ci := 1) g nX4_9 rfl tyX1 tyX1_ok dF1_ok (by have := hR.2.2.1; have : 4 ≤ (cRoom k).cells := this; omega) (by have := hR.2.2.2; have : 909 ≤ (cRoom k).slots := this; omega) dX4_car_58 ?_
          intro hf0 h_1 hU1
          refine r_dup g dX4_car_61 rfl ?_
          refine r_iload_n g dX4_car_62 rfl ?_
          refine r_iload_n g dX4_car_63 rfl ?_
          refine r_aload_n g dX4_car_64 rfl ?_
          refine r_getf g fX4_37 ((hU1.2 x (by omega)).trans hB.1) rfl dX4_car_65 ?_
          refine r_iconst (v := 1) g dX4_car_68 (by decide) ?_
          refine r_isub g dX4_car_69 ?_
          refine r_callI g kX4_60 (ok_i_lift _ _ _ _ (a := nx) hU1.1 (by omega) p f (nI (s.1 0) - 1)) rfl rfl rfl (by omega) hR (by decide) (by decide) (by decide) rfl rfl dX4_car_70 ?_
          rintro v9 h9 nx9 ⟨rfl, rfl, hli, hro, hq9⟩ -
          have hq : ∀ q, q < nx → h9 q = h q := fun q hq => (hq9 q hq).trans (hU1.2 q (by omega))
          refine r_aast1 (t := 0) (j := s.1 2) (f := lfA s la) g ((hq _ (by omega)).trans hB.2.1) (by decide) hli (by omega) rfl (by omega) (by decide) dX4_car_73 ?_
          intro h_2 hU2
          refine r_aload_n g dX4_car_74 rfl ?_
          refine r_dup g dX4_car_75 rfl ?_
          refine r_getf g fX4_52 ((hU2.2 x (by omega)).trans ((hq x (by omega)).trans hB.1)) rfl dX4_car_76 ?_
          refine r_iconst (v := 1) g dX4_car_79 (by decide) ?_
          refine r_iadd g dX4_car_80 ?_
          refine r_topi (y := (nI ((s.1 2) + 1))) (nI_add (s.1 2) 1) ?_
          refine r_put1 (fs' := cobj x (up1 s.1 2 (s.1 2 + 1), fun c => if c = s.1 2 then newCar s f p else s.2.1 c, s.2.2)) g fX4_52 ((hU2.2 x (by omega)).trans ((hq x (by omega)).trans hB.1)) hbx (by show 2 < 8; decide) rfl rfl rfl dX4_car_81 ?_
          intro h_1 hU_2
          refine r_aload_n g dX4_car_84 rfl ?_
          refine r_getf g fX4_52 hU_2.1 rfl dX4_car_85 ?_
          refine r_iconst (v := 1) g dX4_car_88 (by decide) ?_
          refine r_isub g dX4_car_89 ?_
          refine r_topi (y := (nI (s.1 2))) (nI_pred _) ?_
          have hfe := (inB_at (by omega) q).2
          have hpe := (inR_at (by decide) (by decide) hin).2.2
          have he : sCar s f p = (0, nI (s.1 2), (up1 s.1 2 (s.1 2 + 1), fun c => if c = s.1 2 then newCar s f p else s.2.1 c, s.2.2)) := by unfold sCar; rw [if_neg (by rw [hf]; decide), if_neg (by omega)]
          refine r_iret g hr (by decide) (by decide) dX4_car_90 ⟨by rw [he], by rw [he]; rfl, ?_, fun q hq8 => (hU_2.2 q (by omega)).trans ((hU2.2 q (by omega)).trans (hq q (by omega)))⟩
          rw [he]
          refine ⟨_, ra, _, C, Lz, GA, CB.newL hA hB hLo h4c hfe hpe hq hli hro hU2 hU_2 rfl, hLo.newL rfl rfl, fun c hc => ?_, ?_, hGL, h60⟩
          · have hc2 : c < s.1 2 + 1 := hc
            show (if c = s.1 2 then 0 else cs c) ≤ 100000 ∧ (if c = s.1 2 then 0 else cs c) - s.1 1 = (if c = s.1 2 then newCar s f p else s.2.1 c) 2 - s.1 1
            by_cases e9 : c = s.1 2
            · rw [if_pos e9, if_pos e9]; refine ⟨Nat.zero_le _, ?_⟩; show 0 - s.1 1 = s.1 1 - s.1 1; omega
            · rw [if_neg e9, if_neg e9]; exact hCs c (by omega)
          · refine ⟨(hU_2.2 _ (by omega)).trans ((hU2.2 _ (by omega)).trans ((hq _ (by omega)).trans hG.1)), fun kf hk => ?_⟩
            have := goff_rng hk
            exact (hU_2.2 _ (by omega)).trans ((hU2.2 _ (by omega)).trans ((hq _ (by omega)).trans (hG.2 kf hk)))
        · skip
          have h4 : s.1 2 = 4 := by
            have : ¬ s.1 2 < 4 := fun z => c37 ((nI_ltI (by omega) (by decide)).mpr z)
            omega
          exact r_thrS g hth (Or.inr ⟨by show (sCar s f p).1 = 2; unfold sCar; rw [if_neg (by rw [hf]; decide), if_pos h4], rfl⟩) (Nat.le_refl _) (List.mem_of_getElem? (i := 1) rfl) hR (by decide) (by decide) (by decide) rfl dX4_car_40 dX4_car_43 dX4_car_44 dX4_car_46 dX4_car_49
      · skip
        have hf : (inB f (s.1 0) && inR p 1 5) = false := by first | (rw [q]; rfl) | (rw [Bool.and_eq_false_iff]; exact Or.inr (decide_eq_false (fun z => by first | exact absurd c10 (Int32.not_lt.mpr z.1) | exact c15 z.2)))
        exact r_thrI g hth (Or.inl ⟨by show (sCar s f p).1 = 1; unfold sCar; rw [if_pos hf], rfl⟩) (Nat.le_refl _) (List.mem_of_getElem? (i := 0) rfl) hR (by decide) (by decide) (by decide) rfl dX4_car_18 dX4_car_21 dX4_car_22 dX4_car_24 dX4_car_27
theorem call_L {s : AS} {f t : Int32} : (∀ q, q < s.1 3 → isOp (up1 s.1 3 (s.1 3 + 1), s.2.1, fun k => if k = s.1 3 then newCall s f t else s.2.2 k) q = isOp s q) ∧ isOp (up1 s.1 3 (s.1 3 + 1), s.2.1, fun k => if k = s.1 3 then newCall s f t else s.2.2 k) (s.1 3) = true := by
  refine ⟨fun q hq => ?_, ?_⟩
  · unfold isOp
    show decide ((if q = s.1 3 then newCall s f t else s.2.2 q) 3 = 1) = _
    rw [if_neg (by omega)]
  · unfold isOp
    show decide ((if s.1 3 = s.1 3 then newCall s f t else s.2.2 (s.1 3)) 3 = 1) = _
    rw [if_pos rfl]
    rfl
theorem call_oL {s : AS} {f t : Int32} : oL (up1 s.1 3 (s.1 3 + 1), s.2.1, fun k => if k = s.1 3 then newCall s f t else s.2.2 k) = oL s ++ [s.1 3] := by
  obtain ⟨h1, h2⟩ := call_L (s := s) (f := f) (t := t)
  unfold oL
  show (List.range (s.1 3 + 1)).filter _ = _
  rw [List.range_succ, List.filter_append]
  congr 1
  · exact List.filter_congr (fun q hq => h1 q (List.mem_range.mp hq))
  · rw [List.filter_cons_of_pos h2]
    rfl
theorem call_n {s : AS} {f t : Int32} : nOp (up1 s.1 3 (s.1 3 + 1), s.2.1, fun k => if k = s.1 3 then newCall s f t else s.2.2 k) = nOp s + 1 := by
  rw [← oL_len, call_oL, List.length_append, oL_len]
  rfl
theorem call_oc {s : AS} {f t : Int32} (i : Nat) (hi : i < nOp s + 1) : oc (up1 s.1 3 (s.1 3 + 1), s.2.1, fun k => if k = s.1 3 then newCall s f t else s.2.2 k) i = if i = nOp s then s.1 3 else oc s i := by
  unfold oc
  rw [call_oL, List.getD_eq_getElem?_getD]
  by_cases e : i = nOp s
  · rw [if_pos e, List.getElem?_append_right (by rw [oL_len]; omega), oL_len, e, Nat.sub_self]
    rfl
  · rw [if_neg e, List.getElem?_append_left (by rw [oL_len]; omega), List.getD_eq_getElem?_getD]
theorem CB.newR {h h2 h3 h4 : Hp} {x lo nx : Nat} {s : AS} {la ra cs : Nat → Nat} (hB : CB h x s la ra cs) (hLo : CLo s x lo nx la ra) (h6 : nOp s < 6) {f t : Int32} (hf : f = nI (iN f)) (ht : t = nI (iN t)) (hq : ∀ q, q < nx → h2 q = h q) (hl : h2 nx = some (eO 2 [.int (nI (s.1 3)), .int f, .int t, .int (nI (s.1 1)), .int 0, .int (-1)])) (u3 : Up1 h2 h3 (x + 2) (eQ 1 6 (va_up (rfA (nOp s) ra) (nOp s) (some nx)))) {fs : List Value} (u4 : Up1 h3 h4 x (eO 4 fs)) (hfs : fs = [.int (nI (s.1 0)), .ref (x + 1), .int (nI (s.1 2)), .ref (x + 2), .int (nI (nOp s + 1)), .int (nI (s.1 3 + 1)), .int (nI (s.1 1)), .ref (x + 3)]) :
    CB h4 x (up1 s.1 3 (s.1 3 + 1), s.2.1, fun k => if k = s.1 3 then newCall s f t else s.2.2 k) la (fun i => if i = nOp s then nx else ra i) cs := by
  have h17 := hLo.1
  have hln := hLo.2.1
  have tr : ∀ q, q ≠ x → q ≠ x + 2 → h4 q = h2 q := fun q a b => (u4.2 q a).trans (u3.2 q b)
  have en := call_n (s := s) (f := f) (t := t)
  refine ⟨?_, ?_, ?_, fun c hc => ?_, fun i hi => ?_⟩
  · rw [u4.1, hfs]
    unfold cobj
    rw [en]
    rfl
  · rw [tr _ (by omega) (by omega), hq _ (by omega)]
    exact hB.2.1
  · rw [u4.2 _ (by omega), u3.1, en]
    congr 2
    funext c
    show (if c = nOp s then some nx else if c < nOp s then some (ra c) else none) = if c < nOp s + 1 then some (if c = nOp s then nx else ra c) else none
    by_cases e : c = nOp s
    · rw [if_pos e, if_pos (by omega), if_pos e]
    · rw [if_neg e]
      by_cases e2 : c < nOp s
      · rw [if_pos e2, if_pos (show c < nOp s + 1 by omega), if_neg e]
      · rw [if_neg e2, if_neg (show ¬ c < nOp s + 1 by omega)]
  · obtain ⟨h1, W, CO, FI, h2, h3⟩ := hB.2.2.2.1 c hc
    have hl9 := hLo.2.2.1 c hc
    exact ⟨(tr _ (by omega) (by omega)).trans ((hq _ (by omega)).trans h1), W, CO, FI, ⟨(tr _ (by omega) (by omega)).trans ((hq _ (by omega)).trans h2.1), (tr _ (by omega) (by omega)).trans ((hq _ (by omega)).trans h2.2.1), (tr _ (by omega) (by omega)).trans ((hq _ (by omega)).trans h2.2.2)⟩, h3⟩
  · rw [en] at hi
    rw [call_oc i hi]
    by_cases e : i = nOp s
    · simp only [if_pos e]
      rw [tr _ (by omega) (by omega), hl]
      congr 2
      unfold dobj rfS
      show _ = [Value.int (nI (s.1 3)), Value.int (nI ((if s.1 3 = s.1 3 then newCall s f t else s.2.2 (s.1 3)) 0)), Value.int (nI ((if s.1 3 = s.1 3 then newCall s f t else s.2.2 (s.1 3)) 1)), Value.int (nI ((if s.1 3 = s.1 3 then newCall s f t else s.2.2 (s.1 3)) 2)), Value.int (nI ((if s.1 3 = s.1 3 then newCall s f t else s.2.2 (s.1 3)) 4)), Value.int (beI ((if s.1 3 = s.1 3 then newCall s f t else s.2.2 (s.1 3)) 5))]
      rw [if_pos rfl]
      show _ = [_, Value.int (nI (iN f)), Value.int (nI (iN t)), _, _, _]
      rw [← hf, ← ht]
      rfl
    · simp only [if_neg e]
      have hl9 := hLo.2.2.2.2.1 i (by omega)
      have ho := (oc_at (s := s) (i := i) (by omega)).1
      refine ((tr _ (by omega) (by omega)).trans ((hq _ (by omega)).trans (hB.2.2.2.2 i (by omega)))).trans ?_
      unfold dobj rfS
      simp [show oc s i ≠ s.1 3 by omega]
theorem CLo.newR {x lo nx : Nat} {s s' : AS} {la ra : Nat → Nat} (hLo : CLo s x lo nx la ra) (h2 : s'.1 2 = s.1 2) (hn : nOp s' = nOp s + 1) : CLo s' x lo (nx + 1) la (fun i => if i = nOp s then nx else ra i) := by
  unfold CLo
  rw [h2, hn]
  have hln := hLo.2.1
  refine ⟨hLo.1, by omega, fun c hc => ?_, hLo.2.2.2.1, fun i hi => ?_, fun i j hij hj => ?_, fun c i hc hi => ?_⟩
  · have := hLo.2.2.1 c hc; omega
  · by_cases e : i = nOp s
    · simp only [if_pos e]; omega
    · have := hLo.2.2.2.2.1 i (by omega); simp only [if_neg e]; omega
  · have e1 : i ≠ nOp s := by omega
    simp only [if_neg e1]
    by_cases e : j = nOp s
    · have := hLo.2.2.2.2.1 i (by omega); simp only [if_pos e]; omega
    · have := hLo.2.2.2.2.2.1 i j hij (by omega); simp only [if_neg e]; omega
  · by_cases e : i = nOp s
    · have := hLo.2.2.1 c hc; simp only [if_pos e]; omega
    · have := hLo.2.2.2.2.2.2 c i hc (by omega); simp only [if_neg e]; omega

set_option maxHeartbeats 4000000 in
set_option maxRecDepth 100000 in
theorem ok_c_call (l : Launch) (G : Nat → ClassId) (D : va_G) (base : Nat) (hl : l.stackTraces = false) {h : Hp} {nx x lo : Nat} {s : AS} {r : GR} (hA : AI s) (hCI : CI h x lo nx s r) (hbx : base ≤ x) (f t : Int32) : MetX l G D base miX4_call 6 1 6 [.ref x, .int f, .int t] h nx (KCr h x lo r false (sCall s f t)) (KXr (sCall s f t)) := by
  obtain ⟨la, ra, cs, C, Lz, GA, hB, hLo, hCs, hG, hGL, h60⟩ := hCI
  refine MetX_of hl (by decide +kernel) rfl ?_
  intro k g hr hth hR hcl hcg hcd hcb hcn hnx
  subst hcl; subst hcg; subst hcd; subst hcb
  obtain ⟨⟨hn1, hn2⟩, ht1, hnc, hN, -⟩ := id hA
  have hop := hA.2.2.2.2.2.2.1
  have h17 := hLo.1
  have hln := hLo.2.1
  show Sf k 0 0 h nx 0 [some (.ref x), some (.int f), some (.int t)] []
  refine r_aload_n g dX4_call_0 rfl ?_
  refine r_iload_n g dX4_call_1 rfl ?_
  refine r_pV g kX4_41 (ok_c_isFloor _ _ _ _ hA hB f) hB.1 rfl rfl rfl hnx hR (by decide) (Nat.zero_le _) (Nat.zero_le _) rfl rfl dX4_call_2 ?_
  refine r_if_eq 21 g dX4_call_5 (by decide) (fun c5 => ?_) (fun c5 => ?_)
  · skip
    have q := b2_f c5
    have hf : (inB f (s.1 0) && inB t (s.1 0) && !decide (f = t)) = false := by first | (rw [q]; rfl) | (rw [q2, Bool.and_false]; rfl) | (rw [decide_eq_true c18, Bool.not_true, Bool.and_false])
    exact r_thrI g hth (Or.inl ⟨by show (sCall s f t).1 = 1; unfold sCall; rw [if_pos hf], rfl⟩) (Nat.le_refl _) (List.mem_of_getElem? (i := 5) rfl) hR (by decide) (by decide) (by decide) rfl dX4_call_21 dX4_call_24 dX4_call_25 dX4_call_27 dX4_call_30
  · skip
    have q := b2_t c5
    refine r_aload_n g dX4_call_8 rfl ?_
    refine r_iload_n g dX4_call_9 rfl ?_
    refine r_pV g kX4_41 (ok_c_isFloor _ _ _ _ hA hB t) hB.1 rfl rfl rfl hnx hR (by decide) (Nat.zero_le _) (Nat.zero_le _) rfl rfl dX4_call_10 ?_
    refine r_if_eq 21 g dX4_call_13 (by decide) (fun c13 => ?_) (fun c13 => ?_)
    · skip
      have q2 := b2_f c13
      have hf : (inB f (s.1 0) && inB t (s.1 0) && !decide (f = t)) = false := by first | (rw [q]; rfl) | (rw [q2, Bool.and_false]; rfl) | (rw [decide_eq_true c18, Bool.not_true, Bool.and_false])
      exact r_thrI g hth (Or.inl ⟨by show (sCall s f t).1 = 1; unfold sCall; rw [if_pos hf], rfl⟩) (Nat.le_refl _) (List.mem_of_getElem? (i := 5) rfl) hR (by decide) (by decide) (by decide) rfl dX4_call_21 dX4_call_24 dX4_call_25 dX4_call_27 dX4_call_30
    · skip
      have q2 := b2_t c13
      refine r_iload_n g dX4_call_16 rfl ?_
      refine r_iload_n g dX4_call_17 rfl ?_
      refine r_icmp_ne 31 g dX4_call_18 (by decide) (fun c18 => ?_) (fun c18 => ?_)
      · skip
        have hf : (inB f (s.1 0) && inB t (s.1 0) && !decide (f = t)) = true := by rw [q, q2, decide_eq_false c18]; rfl
        refine r_aload_n g dX4_call_31 rfl ?_
        refine r_getf g fX4_92 hB.1 rfl dX4_call_32 ?_
        refine r_aload_n g dX4_call_35 rfl ?_
        refine r_getf g fX4_17 hB.1 rfl dX4_call_36 ?_
        refine r_alen g hB.2.2.1 (by decide) dX4_call_39 ?_
        refine r_icmp_ge 53 g dX4_call_40 (by decide) (fun c40 => ?_) (fun c40 => ?_)
        · skip
          have h6 : nOp s = 6 ∨ s.1 3 = 400 := Or.inl (by
            have : ¬ nOp s < 6 := fun z => nI_ge z (by decide) c40
            omega)
          exact r_thrS g hth (Or.inr ⟨by show (sCall s f t).1 = 2; unfold sCall; rw [if_neg (by rw [hf]; decide), if_pos h6], rfl⟩) (Nat.le_refl _) (List.mem_of_getElem? (i := 6) rfl) hR (by decide) (by decide) (by decide) rfl dX4_call_53 dX4_call_56 dX4_call_57 dX4_call_59 dX4_call_62
        · skip
          have h6c : nOp s < 6 := Nat.lt_of_not_le (fun z => c40 (nI_le z (by omega)))
          refine r_aload_n g dX4_call_43 rfl ?_
          refine r_getf g fX4_95 hB.1 rfl dX4_call_44 ?_
          refine r_sipush (v := 400) g dX4_call_47 (by decide) ?_
          refine r_icmp_lt 63 g dX4_call_50 (by decide) (fun c50 => ?_) (fun c50 => ?_)
          · skip
            have h4c : s.1 3 < 400 := (nI_ltI (b := 400) (by omega) (by decide)).mp c50
            refine r_aload_n g dX4_call_63 rfl ?_
            refine r_getf g fX4_17 hB.1 rfl dX4_call_64 ?_
            refine r_aload_n g dX4_call_67 rfl ?_
            refine r_getf g fX4_92 hB.1 rfl dX4_call_68 ?_
            refine r_new1 (ci := 2) g nX4_15 rfl tyX2 tyX2_ok dF2_ok (by have := hR.2.2.1; have : 1 ≤ (cRoom k).cells := this; omega) (by have := hR.2.2.2; have : 6 ≤ (cRoom k).slots := this; omega) dX4_call_71 ?_
            intro hf0 h_1 hU1
            refine r_dup g dX4_call_74 rfl ?_
            refine r_aload_n g dX4_call_75 rfl ?_
            refine r_getf g fX4_95 ((hU1.2 x (by omega)).trans hB.1) rfl dX4_call_76 ?_
            refine r_iload_n g dX4_call_79 rfl ?_
            refine r_iload_n g dX4_call_80 rfl ?_
            refine r_aload_n g dX4_call_81 rfl ?_
            refine r_getf g fX4_100 ((hU1.2 x (by omega)).trans hB.1) rfl dX4_call_82 ?_
            refine r_callI g kX4_103 (ok_i_ride _ _ _ _ (a := nx) hU1.1 (by omega) (nI (s.1 3)) f t (nI (s.1 1))) rfl rfl rfl (by omega) hR (by decide) (by decide) (by decide) rfl rfl dX4_call_85 ?_
            rintro v9 h9 nx9 ⟨rfl, rfl, hU9⟩ -
            have hq : ∀ q, q < nx → h9 q = h q := fun q hq => (hU9.2 q (by omega)).trans (hU1.2 q (by omega))
            refine r_aast1 (t := 1) (j := nOp s) (f := rfA (nOp s) ra) g ((hq _ (by omega)).trans hB.2.2.1) (by decide) hU9.1 (by omega) rfl (by omega) (by decide) dX4_call_88 ?_
            intro h_2 hU2
            refine r_aload_n g dX4_call_89 rfl ?_
            refine r_dup g dX4_call_90 rfl ?_
            refine r_getf g fX4_92 ((hU2.2 x (by omega)).trans ((hq x (by omega)).trans hB.1)) rfl dX4_call_91 ?_
            refine r_iconst (v := 1) g dX4_call_94 (by decide) ?_
            refine r_iadd g dX4_call_95 ?_
            refine r_topi (y := (nI ((nOp s) + 1))) (nI_add (nOp s) 1) ?_
            refine r_put1 (fs' := [.int (nI (s.1 0)), .ref (x + 1), .int (nI (s.1 2)), .ref (x + 2), .int (nI (nOp s + 1)), .int (nI (s.1 3)), .int (nI (s.1 1)), .ref (x + 3)]) g fX4_92 ((hU2.2 x (by omega)).trans ((hq x (by omega)).trans hB.1)) hbx (by show 4 < 8; decide) rfl rfl rfl dX4_call_96 ?_
            intro h_1 hU_2
            refine r_aload_n g dX4_call_99 rfl ?_
            refine r_dup g dX4_call_100 rfl ?_
            refine r_getf g fX4_95 hU_2.1 rfl dX4_call_101 ?_
            refine r_iconst (v := 1) g dX4_call_104 (by decide) ?_
            refine r_iadd g dX4_call_105 ?_
            refine r_topi (y := (nI ((s.1 3) + 1))) (nI_add (s.1 3) 1) ?_
            refine r_put1 (fs' := [.int (nI (s.1 0)), .ref (x + 1), .int (nI (s.1 2)), .ref (x + 2), .int (nI (nOp s + 1)), .int (nI (s.1 3 + 1)), .int (nI (s.1 1)), .ref (x + 3)]) g fX4_95 hU_2.1 hbx (by show 5 < 8; decide) rfl rfl rfl dX4_call_106 ?_
            intro h_3 hU_4
            have hU_4 := hU_2.tr hU_4
            refine r_aload_n g dX4_call_109 rfl ?_
            refine r_getf g fX4_95 hU_4.1 rfl dX4_call_110 ?_
            refine r_iconst (v := 1) g dX4_call_113 (by decide) ?_
            refine r_isub g dX4_call_114 ?_
            refine r_topi (y := (nI (s.1 3))) (nI_pred _) ?_
            have hfe := (inB_at (by omega) q).2
            have hte := (inB_at (by omega) q2).2
            have he : sCall s f t = (0, nI (s.1 3), (up1 s.1 3 (s.1 3 + 1), s.2.1, fun k => if k = s.1 3 then newCall s f t else s.2.2 k)) := by unfold sCall; rw [if_neg (by rw [hf]; decide), if_neg (by omega)]
            refine r_iret g hr (by decide) (by decide) dX4_call_115 ⟨by rw [he], by rw [he]; rfl, ?_, fun q hq8 => (hU_4.2 q (by omega)).trans ((hU2.2 q (by omega)).trans (hq q (by omega)))⟩
            rw [he]
            refine ⟨la, _, cs, C, Lz, GA, CB.newR hB hLo h6c hfe hte hq hU9.1 hU2 hU_4 rfl, hLo.newR rfl call_n, hCs, ?_, hGL, h60⟩
            refine ⟨(hU_4.2 _ (by omega)).trans ((hU2.2 _ (by omega)).trans ((hq _ (by omega)).trans hG.1)), fun kf hk => ?_⟩
            have := goff_rng hk
            exact (hU_4.2 _ (by omega)).trans ((hU2.2 _ (by omega)).trans ((hq _ (by omega)).trans (hG.2 kf hk)))
          · skip
            have h6 : nOp s = 6 ∨ s.1 3 = 400 := Or.inr (by
              have : ¬ s.1 3 < 400 := fun z => c50 ((nI_ltI (b := 400) (by omega) (by decide)).mpr z)
              omega)
            exact r_thrS g hth (Or.inr ⟨by show (sCall s f t).1 = 2; unfold sCall; rw [if_neg (by rw [hf]; decide), if_pos h6], rfl⟩) (Nat.le_refl _) (List.mem_of_getElem? (i := 6) rfl) hR (by decide) (by decide) (by decide) rfl dX4_call_53 dX4_call_56 dX4_call_57 dX4_call_59 dX4_call_62
      · skip
        have hf : (inB f (s.1 0) && inB t (s.1 0) && !decide (f = t)) = false := by first | (rw [q]; rfl) | (rw [q2, Bool.and_false]; rfl) | (rw [decide_eq_true c18, Bool.not_true, Bool.and_false])
        exact r_thrI g hth (Or.inl ⟨by show (sCall s f t).1 = 1; unfold sCall; rw [if_pos hf], rfl⟩) (Nat.le_refl _) (List.mem_of_getElem? (i := 5) rfl) hR (by decide) (by decide) (by decide) rfl dX4_call_21 dX4_call_24 dX4_call_25 dX4_call_27 dX4_call_30
