/-! 32: the class's calls that change a lift, a ride, or the time -/
def Up1 (h h' : Hp) (a : Nat) (e : PE) : Prop := h' a = some e ∧ ∀ q, q ≠ a → h' q = h q
theorem Up1.of (h : Hp) (a : Nat) (e : PE) : Up1 h (hpU h a e) a e := ⟨hpU_eq _ _ _, fun q hq => hpU_ne hq⟩
theorem Up1.fr {h h' : Hp} {a : Nat} {e : PE} (x : Up1 h h' a e) : Fr a 1 h h' := fun q hq => x.2 q (by omega)
theorem Up1.tr {h h1 h2 : Hp} {a : Nat} {e1 e2 : PE} (x : Up1 h h1 a e1) (y : Up1 h1 h2 a e2) : Up1 h h2 a e2 := ⟨y.1, fun q hq => (y.2 q hq).trans (x.2 q hq)⟩
/-- below x, and between the class's own cells and lo, all stays -/
def FrX (x lo : Nat) (h h' : Hp) : Prop := ∀ q, (q < x ∨ x + 17 ≤ q ∧ q < lo) → h' q = h q
theorem FrX.tr {x lo : Nat} {h h1 h2 : Hp} (a : FrX x lo h h1) (b : FrX x lo h1 h2) : FrX x lo h h2 := fun q hq => (b q hq).trans (a q hq)
theorem FrX.rf {x lo : Nat} {h : Hp} : FrX x lo h h := fun _ _ => rfl
theorem Up1.frx {x lo : Nat} {h h' : Hp} {a : Nat} {e : PE} (u : Up1 h h' a e) (ha : x ≤ a ∧ (a < x + 17 ∨ lo ≤ a)) : FrX x lo h h' := fun q hq => u.2 q (by omega)
theorem b2_fit (b : Bool) : fits .boolean (.int (b2 b)) = true := by cases b <;> rfl
section PUT1
variable {k : Cx} {own : String} {cc : ByteArray} {cells slots : Nat} {h : Hp} {nx pc : Nat} {ls : List (Option Value)} {st : List Value}
theorem r_put1 {idx ci kf a : Nat} {ty : FieldType} {fs fs' : List Value} {v : Value} (g : Gd k own cc) (f : FL own idx ci kf ty false) (ha : h a = some (eO ci fs)) (hb : cBase k ≤ a) (hl : kf < fs.length) (hn : narrow ty v = v) (hfit : fits ty v = true) (hs : fs.set kf v = fs') (d : decode cc pc = .ok (.putfield idx, 3)) (kk : ∀ h', Up1 h h' a (eO ci fs') → Sf k cells slots h' nx (pc + 3) ls st) : Sf k cells slots h nx pc ls (v :: .ref a :: st) :=
  r_putf g f ha hb hl hn hfit d (by rw [hs]; exact kk _ (Up1.of _ _ _))
theorem r_aast1 {a n j t v : Nat} {f : Nat → Option Nat} {i : Int32} {vs : List Value} (g : Gd k own cc) (ha : h a = some (eQ t n f)) (ht : t < 2) (hv : h v = some (eO (t + 1) vs)) (hb : cBase k ≤ a) (hi : i = nI j) (hj : j < n) (hn : n < 2 ^ 31) (d : decode cc pc = .ok (.aastore, 1)) (kk : ∀ h', Up1 h h' a (eQ t n (va_up f j (some v))) → Sf k cells slots h' nx (pc + 1) ls st) : Sf k cells slots h nx pc ls (.ref v :: .int i :: .ref a :: st) :=
  r_aast g ha ht hv hb hi hj hn d (kk _ (Up1.of _ _ _))
theorem r_aast1N {a n j t : Nat} {f : Nat → Option Nat} {i : Int32} (g : Gd k own cc) (ha : h a = some (eQ t n f)) (ht : t < 2) (hb : cBase k ≤ a) (hi : i = nI j) (hj : j < n) (hn : n < 2 ^ 31) (d : decode cc pc = .ok (.aastore, 1)) (kk : ∀ h', Up1 h h' a (eQ t n (va_up f j none)) → Sf k cells slots h' nx (pc + 1) ls st) : Sf k cells slots h nx pc ls (.null :: .int i :: .ref a :: st) :=
  r_aastN g ha ht hb hi hj hn d (kk _ (Up1.of _ _ _))
end PUT1
theorem CB.setL {h h' : Hp} {x lo nx : Nat} {s s' : AS} {la ra cs cs' : Nat → Nat} {c : Nat} (hB : CB h x s la ra cs) (hLo : CLo s x lo nx la ra) (hc : c < s.1 2) (e1 : s'.1 = s.1) (e2 : s'.2.2 = s.2.2) (hU : Up1 h h' (la c) (eO 1 (lobj (la c) (lfS s' cs' c)))) (ho : ∀ c', c' ≠ c → lobj (la c') (lfS s' cs' c') = lobj (la c') (lfS s cs c')) : CB h' x s' la ra cs' := by
  obtain ⟨a, b, d⟩ := s'
  cases e1
  cases e2
  have hl := hLo.2.2.1 c hc
  have h17 := hLo.1
  refine ⟨(hU.2 x (by omega)).trans hB.1, (hU.2 (x + 1) (by omega)).trans hB.2.1, (hU.2 (x + 2) (by omega)).trans hB.2.2.1, fun c' hc' => ?_, fun i hi => (hU.2 _ (by have := hLo.2.2.2.2.2.2 c i hc hi; omega)).trans (hB.2.2.2.2 i hi)⟩
  obtain ⟨h1, W, CO, FI, h2, h3⟩ := hB.2.2.2.1 c' hc'
  by_cases e : c' = c
  · subst e
    exact ⟨hU.1, W, CO, FI, h2.fr hU.fr (by omega), h3⟩
  · have hap : la c' + 4 ≤ la c ∨ la c + 4 ≤ la c' := by
      rcases Nat.lt_or_gt_of_ne e with q | q
      · exact Or.inl (hLo.2.2.2.1 c' c q hc)
      · exact Or.inr (hLo.2.2.2.1 c c' q hc')
    exact ⟨((hU.2 _ (by omega)).trans h1).trans (by rw [ho c' e]), W, CO, FI, h2.fr hU.fr (by omega), h3⟩
theorem oL_cong {s s' : AS} (e1 : s'.1 3 = s.1 3) (en : ∀ q, s'.2.2 q 3 = s.2.2 q 3) : oL s' = oL s ∧ nOp s' = nOp s ∧ isOp s' = isOp s := by
  have e : isOp s' = isOp s := funext (fun q => by unfold isOp; rw [en q])
  unfold oL nOp
  rw [e, e1]
  exact ⟨rfl, rfl, rfl⟩
theorem CB.setR {h h' : Hp} {x lo nx : Nat} {s s' : AS} {la ra cs : Nat → Nat} {i : Nat} (hB : CB h x s la ra cs) (hLo : CLo s x lo nx la ra) (hi : i < nOp s) (e1 : s'.1 = s.1) (e2 : s'.2.1 = s.2.1) (en : ∀ q, s'.2.2 q 3 = s.2.2 q 3) (hU : Up1 h h' (ra i) (eO 2 (dobj (rfS s' (oc s i))))) (ho : ∀ q, q ≠ oc s i → dobj (rfS s' q) = dobj (rfS s q)) : CB h' x s' la ra cs := by
  obtain ⟨e3, e4, -⟩ := oL_cong (s := s) (s' := s') (by rw [e1]) en
  have e5 : ∀ j, oc s' j = oc s j := fun j => by unfold oc; rw [e3]
  have hl := hLo.2.2.2.2.1 i hi
  have h17 := hLo.1
  have ec : cobj x s' = cobj x s := by unfold cobj; rw [e1, e4]
  have el : lfA s' la = lfA s la := by unfold lfA; rw [e1]
  have ef : ∀ c, lfS s' cs c = lfS s cs c := fun c => by unfold lfS; rw [e2]
  unfold CB
  rw [ec, el, e4, e1]
  refine ⟨(hU.2 x (by omega)).trans hB.1, (hU.2 (x + 1) (by omega)).trans hB.2.1, (hU.2 (x + 2) (by omega)).trans hB.2.2.1, fun c' hc' => ?_, fun j hj => ?_⟩
  · obtain ⟨h1, W, CO, FI, h2, h3⟩ := hB.2.2.2.1 c' hc'
    have hap := hLo.2.2.2.2.2.2 c' i hc' hi
    rw [ef]
    exact ⟨(hU.2 _ (by omega)).trans h1, W, CO, FI, h2.fr hU.fr (by omega), h3⟩
  · rw [e5]
    by_cases e : j = i
    · subst e; exact hU.1
    · have hne : ra j ≠ ra i := by
        rcases Nat.lt_or_gt_of_ne e with q | q
        · have := hLo.2.2.2.2.2.1 j i q hi; omega
        · have := hLo.2.2.2.2.2.1 i j q hj; omega
      rw [ho _ (fun z => e (oc_inj hj hi z))]
      exact (hU.2 _ hne).trans (hB.2.2.2.2 j hj)
/-- behind a call of the class that returned -/
def KCr (h : Hp) (x lo : Nat) (r : GR) (vd : Bool) (R : RS) : Option Value → Hp → Nat → Prop := fun v h' nx' => R.1 = 0 ∧ (if vd = true then v = none else v = some (.int R.2.1)) ∧ CI h' x lo nx' R.2.2 r ∧ FrX x lo h h'
def KXr (R : RS) : String → Prop := fun E => (R.1 = 1 ∧ E = eIA) ∨ (R.1 = 2 ∧ E = eIS)

set_option maxHeartbeats 4000000 in
set_option maxRecDepth 100000 in
theorem ok_c_free (l : Launch) (G : Nat → ClassId) (D : va_G) (base : Nat) (hl : l.stackTraces = false) {h : Hp} {nx x lo : Nat} {s : AS} {r : GR} (hA : AI s) (hCI : CI h x lo nx s r) (hbx : base ≤ x) (c f z : Int32) : MetX l G D base miX4_free 6 1 6 [.ref x, .int c, .int f, .int z] h nx (KCr h x lo r true (sFree s c f z)) (KXr (sFree s c f z)) := by
  obtain ⟨la, ra, cs, C, Lz, GA, hB, hLo, hCs, hG, hGL, h60⟩ := hCI
  refine MetX_of hl (by decide +kernel) rfl ?_
  intro k g hr hth hR hcl hcg hcd hcb hcn hnx
  subst hcl; subst hcg; subst hcd; subst hcb
  obtain ⟨⟨hn1, hn2⟩, ht, hnc, hN, -⟩ := id hA
  have hop := hA.2.2.2.2.2.2.1
  show Sf k 0 0 h nx 0 [some (.ref x), some (.int c), some (.int f), some (.int z), none] []
  by_cases qc : inB c (s.1 2) = true
  · skip
    refine r_aload_n g dX4_free_0 rfl ?_
    refine r_iload_n g dX4_free_1 rfl ?_
    have zl := ok_c_liftOf (cL k) (cG k) (cD k) (cBase k) (nx := nx) hA hB c
    rw [show lfB s la c = some (la (iN c)) from if_pos qc] at zl
    refine r_pV g kX4_63 zl hB.1 rfl rfl rfl hnx hR (by decide) (Nat.zero_le _) (Nat.zero_le _) rfl rfl dX4_free_2 ?_
    refine r_astore g dX4_free_5 rfl rfl rfl ?_
    refine r_aload g dX4_free_7 rfl ?_
    refine r_ifnull g dX4_free_9 ?_
    refine r_aload_n g dX4_free_12 rfl ?_
    refine r_iload_n g dX4_free_13 rfl ?_
    refine r_pV g kX4_41 (ok_c_isFloor _ _ _ _ hA hB f) hB.1 rfl rfl rfl hnx hR (by decide) (Nat.zero_le _) (Nat.zero_le _) rfl rfl dX4_free_14 ?_
    refine r_if_eq 30 g dX4_free_17 (by decide) (fun c17 => ?_) (fun c17 => ?_)
    · skip
      have q17 := b2_f c17
      have hf : (inB c (s.1 2) && inB f (s.1 0) && inR z 0 100000) = false := by first | (rw [show inB c (s.1 2) = false by simpa using qc]; rfl) | (rw [q17, Bool.and_false]; rfl) | (rw [Bool.and_eq_false_iff]; exact Or.inr (decide_eq_false (fun y => by first | exact absurd c21 (Int32.not_lt.mpr y.1) | exact absurd y.2 c27)))
      exact r_thrI g hth (Or.inl ⟨by show (sFree s c f z).1 = 1; unfold sFree; rw [if_pos hf], rfl⟩) (Nat.le_refl _) (List.mem_of_getElem? (i := 2) rfl) hR (by decide) (by decide) (by decide) rfl dX4_free_30 dX4_free_33 dX4_free_34 dX4_free_36 dX4_free_39
    · skip
      have q17 := b2_t c17
      refine r_iload_n g dX4_free_20 rfl ?_
      refine r_if_lt 30 g dX4_free_21 (by decide) (fun c21 => ?_) (fun c21 => ?_)
      · skip
        have hf : (inB c (s.1 2) && inB f (s.1 0) && inR z 0 100000) = false := by first | (rw [show inB c (s.1 2) = false by simpa using qc]; rfl) | (rw [q17, Bool.and_false]; rfl) | (rw [Bool.and_eq_false_iff]; exact Or.inr (decide_eq_false (fun y => by first | exact absurd c21 (Int32.not_lt.mpr y.1) | exact absurd y.2 c27)))
        exact r_thrI g hth (Or.inl ⟨by show (sFree s c f z).1 = 1; unfold sFree; rw [if_pos hf], rfl⟩) (Nat.le_refl _) (List.mem_of_getElem? (i := 2) rfl) hR (by decide) (by decide) (by decide) rfl dX4_free_30 dX4_free_33 dX4_free_34 dX4_free_36 dX4_free_39
      · skip
        refine r_iload_n g dX4_free_24 rfl ?_
        refine r_ldc g dX4_free_25 vX4_67 ?_
        refine r_icmp_le 40 g dX4_free_27 (by decide) (fun c27 => ?_) (fun c27 => ?_)
        · skip
          have hin : inR z 0 100000 = true := decide_eq_true ⟨Int32.not_lt.mp c21, c27⟩
          have hf : (inB c (s.1 2) && inB f (s.1 0) && inR z 0 100000) = true := by rw [qc, q17, hin]; rfl
          have hci := (inB_at (by omega) qc).1
          have hbo : cBase k ≤ la (iN c) := by have := hLo.2.2.1 _ hci; have := hLo.1; omega
          refine r_aload g dX4_free_40 rfl ?_
          refine r_iload_n g dX4_free_42 rfl ?_
          refine r_put1 (fs' := lobj (la (iN c)) (upd (lfS s cs (iN c)) 1 f)) g fX4_70 (hB.2.2.2.1 _ (inB_at (by omega) qc).1).1 hbo (by show 1 < 7; decide) rfl rfl rfl dX4_free_43 ?_
          intro h_1 hU_2
          refine r_aload g dX4_free_46 rfl ?_
          refine r_iload_n g dX4_free_48 rfl ?_
          refine r_put1 (fs' := lobj (la (iN c)) (upd (upd (lfS s cs (iN c)) 1 f) 2 z)) g fX4_73 hU_2.1 hbo (by show 2 < 7; decide) rfl rfl rfl dX4_free_49 ?_
          intro h_3 hU_4
          have hU_4 := hU_2.tr hU_4
          have hfe := (inB_at (by omega) q17).2
          obtain ⟨-, hz5, hze⟩ := inR_at (by decide) (by decide) hin
          have he : sFree s c f z = (0, 0, (s.1, up2 (up2 s.2.1 (iN c) 1 (iN f)) (iN c) 2 (iN z), s.2.2)) := by unfold sFree; rw [if_neg (by rw [hf]; decide)]
          refine r_vret g hr (by decide) (by decide) dX4_free_52 ⟨by rw [he], rfl, ?_, hU_4.frx (by have := hLo.2.2.1 _ hci; have := hLo.1; omega)⟩
          rw [he]
          refine ⟨la, ra, fun q => if q = iN c then iN z else cs q, C, Lz, GA, hB.setL hLo hci rfl rfl (?_ : Up1 _ _ _ _) (fun c' hc' => ?_), hLo, fun c' hc' => ?_, hG.fr hU_4.fr (by have := hLo.2.2.1 _ hci; have := hLo.1; omega), hGL, h60⟩
          · have hx := hU_4
            rw [show lobj (la (iN c)) (upd (upd (lfS s cs (iN c)) 1 f) 2 z) = lobj (la (iN c)) (lfS (s.1, up2 (up2 s.2.1 (iN c) 1 (iN f)) (iN c) 2 (iN z), s.2.2) (fun q => if q = iN c then iN z else cs q) (iN c)) from ?_] at hx
            · exact hx
            · unfold lobj lfS up2 upd
              simp
              exact ⟨hfe, hze⟩
          · unfold lobj lfS up2
            simp [hc']
          · show (if c' = iN c then iN z else cs c') ≤ 100000 ∧ (if c' = iN c then iN z else cs c') - s.1 1 = (up2 (up2 s.2.1 (iN c) 1 (iN f)) (iN c) 2 (iN z)) c' 2 - s.1 1
            by_cases e9 : c' = iN c
            · rw [if_pos e9]; unfold up2; rw [if_pos ⟨e9, rfl⟩]; exact ⟨hz5, rfl⟩
            · rw [if_neg e9]; unfold up2; rw [if_neg (fun y => e9 y.1), if_neg (fun y => e9 y.1)]; exact hCs c' hc'
        · skip
          have hf : (inB c (s.1 2) && inB f (s.1 0) && inR z 0 100000) = false := by first | (rw [show inB c (s.1 2) = false by simpa using qc]; rfl) | (rw [q17, Bool.and_false]; rfl) | (rw [Bool.and_eq_false_iff]; exact Or.inr (decide_eq_false (fun y => by first | exact absurd c21 (Int32.not_lt.mpr y.1) | exact absurd y.2 c27)))
          exact r_thrI g hth (Or.inl ⟨by show (sFree s c f z).1 = 1; unfold sFree; rw [if_pos hf], rfl⟩) (Nat.le_refl _) (List.mem_of_getElem? (i := 2) rfl) hR (by decide) (by decide) (by decide) rfl dX4_free_30 dX4_free_33 dX4_free_34 dX4_free_36 dX4_free_39
  · skip
    refine r_aload_n g dX4_free_0 rfl ?_
    refine r_iload_n g dX4_free_1 rfl ?_
    have zl := ok_c_liftOf (cL k) (cG k) (cD k) (cBase k) (nx := nx) hA hB c
    rw [show lfB s la c = none from if_neg qc] at zl
    refine r_pV g kX4_63 zl hB.1 rfl rfl rfl hnx hR (by decide) (Nat.zero_le _) (Nat.zero_le _) rfl rfl dX4_free_2 ?_
    refine r_astoreN g dX4_free_5 rfl rfl rfl ?_
    refine r_aloadN g dX4_free_7 rfl ?_
    refine r_ifnullN 30 g dX4_free_9 (by decide) ?_
    have hf : (inB c (s.1 2) && inB f (s.1 0) && inR z 0 100000) = false := by first | (rw [show inB c (s.1 2) = false by simpa using qc]; rfl) | (rw [q17, Bool.and_false]; rfl) | (rw [Bool.and_eq_false_iff]; exact Or.inr (decide_eq_false (fun y => by first | exact absurd c21 (Int32.not_lt.mpr y.1) | exact absurd y.2 c27)))
    exact r_thrI g hth (Or.inl ⟨by show (sFree s c f z).1 = 1; unfold sFree; rw [if_pos hf], rfl⟩) (Nat.le_refl _) (List.mem_of_getElem? (i := 2) rfl) hR (by decide) (by decide) (by decide) rfl dX4_free_30 dX4_free_33 dX4_free_34 dX4_free_36 dX4_free_39
set_option maxHeartbeats 4000000 in
set_option maxRecDepth 100000 in
theorem ok_c_zone (l : Launch) (G : Nat → ClassId) (D : va_G) (base : Nat) (hl : l.stackTraces = false) {h : Hp} {nx x lo : Nat} {s : AS} {r : GR} (hA : AI s) (hCI : CI h x lo nx s r) (hbx : base ≤ x) (c f z : Int32) : MetX l G D base miX4_zone 6 1 6 [.ref x, .int c, .int f, .int z] h nx (KCr h x lo r true (sZone s c f z)) (KXr (sZone s c f z)) := by
  obtain ⟨la, ra, cs, C, Lz, GA, hB, hLo, hCs, hG, hGL, h60⟩ := hCI
  refine MetX_of hl (by decide +kernel) rfl ?_
  intro k g hr hth hR hcl hcg hcd hcb hcn hnx
  subst hcl; subst hcg; subst hcd; subst hcb
  obtain ⟨⟨hn1, hn2⟩, ht, hnc, hN, -⟩ := id hA
  have hop := hA.2.2.2.2.2.2.1
  show Sf k 0 0 h nx 0 [some (.ref x), some (.int c), some (.int f), some (.int z), none] []
  by_cases qc : inB c (s.1 2) = true
  · skip
    refine r_aload_n g dX4_zone_0 rfl ?_
    refine r_iload_n g dX4_zone_1 rfl ?_
    have zl := ok_c_liftOf (cL k) (cG k) (cD k) (cBase k) (nx := nx) hA hB c
    rw [show lfB s la c = some (la (iN c)) from if_pos qc] at zl
    refine r_pV g kX4_63 zl hB.1 rfl rfl rfl hnx hR (by decide) (Nat.zero_le _) (Nat.zero_le _) rfl rfl dX4_zone_2 ?_
    refine r_astore g dX4_zone_5 rfl rfl rfl ?_
    refine r_aload g dX4_zone_7 rfl ?_
    refine r_ifnull g dX4_zone_9 ?_
    refine r_aload_n g dX4_zone_12 rfl ?_
    refine r_iload_n g dX4_zone_13 rfl ?_
    refine r_pV g kX4_41 (ok_c_isFloor _ _ _ _ hA hB f) hB.1 rfl rfl rfl hnx hR (by decide) (Nat.zero_le _) (Nat.zero_le _) rfl rfl dX4_zone_14 ?_
    refine r_if_eq 33 g dX4_zone_17 (by decide) (fun c17 => ?_) (fun c17 => ?_)
    · skip
      have q17 := b2_f c17
      have hf : (inB c (s.1 2) && inB f (s.1 0) && inB z (s.1 0) && decide (f ≤ z)) = false := by first | (rw [show inB c (s.1 2) = false by simpa using qc]; rfl) | (rw [q17, Bool.and_false]; rfl) | (rw [q25, Bool.and_false]; rfl) | (rw [decide_eq_false c30, Bool.and_false])
      exact r_thrI g hth (Or.inl ⟨by show (sZone s c f z).1 = 1; unfold sZone; rw [if_pos hf], rfl⟩) (Nat.le_refl _) (List.mem_of_getElem? (i := 3) rfl) hR (by decide) (by decide) (by decide) rfl dX4_zone_33 dX4_zone_36 dX4_zone_37 dX4_zone_39 dX4_zone_42
    · skip
      have q17 := b2_t c17
      refine r_aload_n g dX4_zone_20 rfl ?_
      refine r_iload_n g dX4_zone_21 rfl ?_
      refine r_pV g kX4_41 (ok_c_isFloor _ _ _ _ hA hB z) hB.1 rfl rfl rfl hnx hR (by decide) (Nat.zero_le _) (Nat.zero_le _) rfl rfl dX4_zone_22 ?_
      refine r_if_eq 33 g dX4_zone_25 (by decide) (fun c25 => ?_) (fun c25 => ?_)
      · skip
        have q25 := b2_f c25
        have hf : (inB c (s.1 2) && inB f (s.1 0) && inB z (s.1 0) && decide (f ≤ z)) = false := by first | (rw [show inB c (s.1 2) = false by simpa using qc]; rfl) | (rw [q17, Bool.and_false]; rfl) | (rw [q25, Bool.and_false]; rfl) | (rw [decide_eq_false c30, Bool.and_false])
        exact r_thrI g hth (Or.inl ⟨by show (sZone s c f z).1 = 1; unfold sZone; rw [if_pos hf], rfl⟩) (Nat.le_refl _) (List.mem_of_getElem? (i := 3) rfl) hR (by decide) (by decide) (by decide) rfl dX4_zone_33 dX4_zone_36 dX4_zone_37 dX4_zone_39 dX4_zone_42
      · skip
        have q25 := b2_t c25
        refine r_iload_n g dX4_zone_28 rfl ?_
        refine r_iload_n g dX4_zone_29 rfl ?_
        refine r_icmp_le 43 g dX4_zone_30 (by decide) (fun c30 => ?_) (fun c30 => ?_)
        · skip
          have hf : (inB c (s.1 2) && inB f (s.1 0) && inB z (s.1 0) && decide (f ≤ z)) = true := by rw [qc, q17, q25, decide_eq_true c30]; rfl
          have hci := (inB_at (by omega) qc).1
          have hbo : cBase k ≤ la (iN c) := by have := hLo.2.2.1 _ hci; have := hLo.1; omega
          refine r_aload g dX4_zone_43 rfl ?_
          refine r_iload_n g dX4_zone_45 rfl ?_
          refine r_put1 (fs' := lobj (la (iN c)) (upd (lfS s cs (iN c)) 3 f)) g fX4_78 (hB.2.2.2.1 _ (inB_at (by omega) qc).1).1 hbo (by show 3 < 7; decide) rfl rfl rfl dX4_zone_46 ?_
          intro h_1 hU_2
          refine r_aload g dX4_zone_49 rfl ?_
          refine r_iload_n g dX4_zone_51 rfl ?_
          refine r_put1 (fs' := lobj (la (iN c)) (upd (upd (lfS s cs (iN c)) 3 f) 4 z)) g fX4_81 hU_2.1 hbo (by show 4 < 7; decide) rfl rfl rfl dX4_zone_52 ?_
          intro h_3 hU_4
          have hU_4 := hU_2.tr hU_4
          have hfe := (inB_at (by omega) q17).2
          have hze := (inB_at (by omega) q25).2
          have he : sZone s c f z = (0, 0, (s.1, up2 (up2 s.2.1 (iN c) 3 (iN f)) (iN c) 4 (iN z), s.2.2)) := by unfold sZone; rw [if_neg (by rw [hf]; decide)]
          refine r_vret g hr (by decide) (by decide) dX4_zone_55 ⟨by rw [he], rfl, ?_, hU_4.frx (by have := hLo.2.2.1 _ hci; have := hLo.1; omega)⟩
          rw [he]
          refine ⟨la, ra, cs, C, Lz, GA, hB.setL hLo hci rfl rfl (?_ : Up1 _ _ _ _) (fun c' hc' => ?_), hLo, fun c' hc' => ?_, hG.fr hU_4.fr (by have := hLo.2.2.1 _ hci; have := hLo.1; omega), hGL, h60⟩
          · have hx := hU_4
            rw [show lobj (la (iN c)) (upd (upd (lfS s cs (iN c)) 3 f) 4 z) = lobj (la (iN c)) (lfS (s.1, up2 (up2 s.2.1 (iN c) 3 (iN f)) (iN c) 4 (iN z), s.2.2) cs (iN c)) from ?_] at hx
            · exact hx
            · unfold lobj lfS up2 upd
              simp
              exact ⟨hfe, hze⟩
          · unfold lobj lfS up2
            simp [hc']
          · have h9 := hCs c' hc'
            unfold gdl at h9 ⊢
            show cs c' ≤ 100000 ∧ cs c' - s.1 1 = (up2 (up2 s.2.1 (iN c) 3 (iN f)) (iN c) 4 (iN z)) c' 2 - s.1 1
            unfold up2
            simp
            exact h9
        · skip
          have hf : (inB c (s.1 2) && inB f (s.1 0) && inB z (s.1 0) && decide (f ≤ z)) = false := by first | (rw [show inB c (s.1 2) = false by simpa using qc]; rfl) | (rw [q17, Bool.and_false]; rfl) | (rw [q25, Bool.and_false]; rfl) | (rw [decide_eq_false c30, Bool.and_false])
          exact r_thrI g hth (Or.inl ⟨by show (sZone s c f z).1 = 1; unfold sZone; rw [if_pos hf], rfl⟩) (Nat.le_refl _) (List.mem_of_getElem? (i := 3) rfl) hR (by decide) (by decide) (by decide) rfl dX4_zone_33 dX4_zone_36 dX4_zone_37 dX4_zone_39 dX4_zone_42
  · skip
    refine r_aload_n g dX4_zone_0 rfl ?_
    refine r_iload_n g dX4_zone_1 rfl ?_
    have zl := ok_c_liftOf (cL k) (cG k) (cD k) (cBase k) (nx := nx) hA hB c
    rw [show lfB s la c = none from if_neg qc] at zl
    refine r_pV g kX4_63 zl hB.1 rfl rfl rfl hnx hR (by decide) (Nat.zero_le _) (Nat.zero_le _) rfl rfl dX4_zone_2 ?_
    refine r_astoreN g dX4_zone_5 rfl rfl rfl ?_
    refine r_aloadN g dX4_zone_7 rfl ?_
    refine r_ifnullN 33 g dX4_zone_9 (by decide) ?_
    have hf : (inB c (s.1 2) && inB f (s.1 0) && inB z (s.1 0) && decide (f ≤ z)) = false := by first | (rw [show inB c (s.1 2) = false by simpa using qc]; rfl) | (rw [q17, Bool.and_false]; rfl) | (rw [q25, Bool.and_false]; rfl) | (rw [decide_eq_false c30, Bool.and_false])
    exact r_thrI g hth (Or.inl ⟨by show (sZone s c f z).1 = 1; unfold sZone; rw [if_pos hf], rfl⟩) (Nat.le_refl _) (List.mem_of_getElem? (i := 3) rfl) hR (by decide) (by decide) (by decide) rfl dX4_zone_33 dX4_zone_36 dX4_zone_37 dX4_zone_39 dX4_zone_42
set_option maxHeartbeats 4000000 in
set_option maxRecDepth 100000 in
theorem ok_c_sleep (l : Launch) (G : Nat → ClassId) (D : va_G) (base : Nat) (hl : l.stackTraces = false) {h : Hp} {nx x lo : Nat} {s : AS} {r : GR} (hA : AI s) (hCI : CI h x lo nx s r) (hbx : base ≤ x) (c : Int32) (on : Bool) : MetX l G D base miX4_sleep 6 1 6 [.ref x, .int c, .int (b2 on)] h nx (KCr h x lo r false (sSleep s c on)) (KXr (sSleep s c on)) := by
  obtain ⟨la, ra, cs, C, Lz, GA, hB, hLo, hCs, hG, hGL, h60⟩ := hCI
  refine MetX_of hl (by decide +kernel) rfl ?_
  intro k g hr hth hR hcl hcg hcd hcb hcn hnx
  subst hcl; subst hcg; subst hcd; subst hcb
  obtain ⟨⟨hn1, hn2⟩, ht, hnc, hN, -⟩ := id hA
  have hop := hA.2.2.2.2.2.2.1
  show Sf k 0 0 h nx 0 [some (.ref x), some (.int c), some (.int (b2 on)), none, none] []
  by_cases qc : inB c (s.1 2) = true
  · skip
    refine r_aload_n g dX4_sleep_0 rfl ?_
    refine r_iload_n g dX4_sleep_1 rfl ?_
    have zl := ok_c_liftOf (cL k) (cG k) (cD k) (cBase k) (nx := nx) hA hB c
    rw [show lfB s la c = some (la (iN c)) from if_pos qc] at zl
    refine r_pV g kX4_63 zl hB.1 rfl rfl rfl hnx hR (by decide) (Nat.zero_le _) (Nat.zero_le _) rfl rfl dX4_sleep_2 ?_
    refine r_astore_n g dX4_sleep_5 rfl rfl rfl ?_
    refine r_aload_n g dX4_sleep_6 rfl ?_
    refine r_ifnonnull 20 g dX4_sleep_7 (by decide) ?_
    have hci := (inB_at (by omega) qc).1
    have hbo : cBase k ≤ la (iN c) := by have := hLo.2.2.1 _ hci; have := hLo.1; omega
    refine r_aload_n g dX4_sleep_20 rfl ?_
    refine r_getf g fX4_86 (hB.2.2.2.1 _ (inB_at (by omega) qc).1).1 rfl dX4_sleep_21 ?_
    refine r_istore g dX4_sleep_24 rfl rfl rfl ?_
    refine r_aload_n g dX4_sleep_26 rfl ?_
    refine r_iload_n g dX4_sleep_27 rfl ?_
    refine r_put1 (fs' := lobj (la (iN c)) (upd (lfS s cs (iN c)) 5 (b2 on))) g fX4_86 (hB.2.2.2.1 _ (inB_at (by omega) qc).1).1 hbo (by show 5 < 7; decide) (b2_nar on) (b2_fit on) rfl dX4_sleep_28 ?_
    intro h_1 hU_2
    refine r_iload g dX4_sleep_31 rfl ?_
    have he : sSleep s c on = (0, nI (s.2.1 (iN c) 5), (s.1, up2 s.2.1 (iN c) 5 (if on = true then 1 else 0), s.2.2)) := by unfold sSleep; rw [if_neg (by rw [qc]; decide)]
    have h51 : nI (s.2.1 (iN c) 5) = b2 (decide (s.2.1 (iN c) 5 = 1)) := by
      have := (hA.2.2.2.2.1 _ hci).2.2.2.2
      rcases (show s.2.1 (iN c) 5 = 0 ∨ s.2.1 (iN c) 5 = 1 by omega) with y | y <;> rw [y] <;> rfl
    refine r_zret g hr (by decide) (by decide) dX4_sleep_33 (by show narrow .boolean (.int (nI (s.2.1 (iN c) 5))) = .int (nI (s.2.1 (iN c) 5)); rw [h51]; exact b2_nar _) ⟨by rw [he], by rw [he]; rfl, ?_, hU_2.frx (by have := hLo.2.2.1 _ hci; have := hLo.1; omega)⟩
    rw [he]
    refine ⟨la, ra, cs, C, Lz, GA, hB.setL hLo hci rfl rfl (?_ : Up1 _ _ _ _) (fun c' hc' => ?_), hLo, fun c' hc' => ?_, hG.fr hU_2.fr (by have := hLo.2.2.1 _ hci; have := hLo.1; omega), hGL, h60⟩
    · have hx := hU_2
      rw [show lobj (la (iN c)) (upd (lfS s cs (iN c)) 5 (b2 on)) = lobj (la (iN c)) (lfS (s.1, up2 s.2.1 (iN c) 5 (if on = true then 1 else 0), s.2.2) cs (iN c)) from ?_] at hx
      · exact hx
      · unfold lobj lfS up2 upd
        simp
        exact b2_nI on
    · unfold lobj lfS up2
      simp [hc']
    · have h9 := hCs c' hc'
      unfold gdl at h9 ⊢
      show cs c' ≤ 100000 ∧ cs c' - s.1 1 = (up2 s.2.1 (iN c) 5 (if on = true then 1 else 0)) c' 2 - s.1 1
      unfold up2
      simp
      exact h9
  · skip
    refine r_aload_n g dX4_sleep_0 rfl ?_
    refine r_iload_n g dX4_sleep_1 rfl ?_
    have zl := ok_c_liftOf (cL k) (cG k) (cD k) (cBase k) (nx := nx) hA hB c
    rw [show lfB s la c = none from if_neg qc] at zl
    refine r_pV g kX4_63 zl hB.1 rfl rfl rfl hnx hR (by decide) (Nat.zero_le _) (Nat.zero_le _) rfl rfl dX4_sleep_2 ?_
    refine r_astore_nN g dX4_sleep_5 rfl rfl rfl ?_
    refine r_aload_nN g dX4_sleep_6 rfl ?_
    refine r_ifnonnullN g dX4_sleep_7 ?_
    exact r_thrI g hth (Or.inl ⟨by show (sSleep s c on).1 = 1; unfold sSleep; rw [if_pos (by simpa using qc)], rfl⟩) (Nat.le_refl _) (List.mem_of_getElem? (i := 4) rfl) hR (by decide) (by decide) (by decide) rfl dX4_sleep_10 dX4_sleep_13 dX4_sleep_14 dX4_sleep_16 dX4_sleep_19
set_option maxHeartbeats 4000000 in
set_option maxRecDepth 100000 in
theorem ok_c_urgent (l : Launch) (G : Nat → ClassId) (D : va_G) (base : Nat) (hl : l.stackTraces = false) {h : Hp} {nx x lo : Nat} {s : AS} {r : GR} (hA : AI s) (hCI : CI h x lo nx s r) (hbx : base ≤ x) (y : Int32) (on : Bool) : MetX l G D base miX4_urgent 6 1 6 [.ref x, .int y, .int (b2 on)] h nx (KCr h x lo r false (sUrgent s y on)) (KXr (sUrgent s y on)) := by
  obtain ⟨la, ra, cs, C, Lz, GA, hB, hLo, hCs, hG, hGL, h60⟩ := hCI
  refine MetX_of hl (by decide +kernel) rfl ?_
  intro k g hr hth hR hcl hcg hcd hcb hcn hnx
  subst hcl; subst hcg; subst hcd; subst hcb
  obtain ⟨⟨hn1, hn2⟩, ht, hnc, hN, -⟩ := id hA
  have hop := hA.2.2.2.2.2.2.1
  show Sf k 0 0 h nx 0 [some (.ref x), some (.int y), some (.int (b2 on)), none, none] []
  by_cases qr : opB s y = true
  · skip
    refine r_aload_n g dX4_urgent_0 rfl ?_
    refine r_iload_n g dX4_urgent_1 rfl ?_
    have zr := ok_c_openRide (cL k) (cG k) (cD k) (cBase k) (nx := nx) hA hB y
    rw [show rdB s ra y = some (ra (oi s y)) from if_pos qr] at zr
    refine r_pV g kX4_106 zr hB.1 rfl rfl rfl hnx hR (by decide) (Nat.zero_le _) (Nat.zero_le _) rfl rfl dX4_urgent_2 ?_
    refine r_astore_n g dX4_urgent_5 rfl rfl rfl ?_
    refine r_aload_n g dX4_urgent_6 rfl ?_
    refine r_ifnonnull 20 g dX4_urgent_7 (by decide) ?_
    have hri := oi_at hA qr
    have hbo : cBase k ≤ ra (oi s y) := by have := hLo.2.2.2.2.1 _ hri.1; have := hLo.1; omega
    refine r_aload_n g dX4_urgent_20 rfl ?_
    refine r_getf g fX4_112 (hB.2.2.2.2 _ (oi_at hA qr).1) rfl dX4_urgent_21 ?_
    refine r_istore g dX4_urgent_24 rfl rfl rfl ?_
    refine r_aload_n g dX4_urgent_26 rfl ?_
    refine r_iload_n g dX4_urgent_27 rfl ?_
    refine r_put1 (fs' := dobj (upd (rfS s (oc s (oi s y))) 4 (b2 on))) g fX4_112 (hB.2.2.2.2 _ (oi_at hA qr).1) hbo (by show 4 < 6; decide) (b2_nar on) (b2_fit on) rfl dX4_urgent_28 ?_
    intro h_1 hU_2
    refine r_iload g dX4_urgent_31 rfl ?_
    have he : sUrgent s y on = (0, nI (s.2.2 (iN y) 4), (s.1, s.2.1, up2 s.2.2 (iN y) 4 (if on = true then 1 else 0))) := by unfold sUrgent; rw [if_neg (by rw [qr]; decide)]
    have h51 : nI (s.2.2 (iN y) 4) = b2 (decide (s.2.2 (iN y) 4 = 1)) := by
      have := (hA.2.2.2.2.2.1 _ (opB_at hA qr).1).2.2.2.2.1
      rcases (show s.2.2 (iN y) 4 = 0 ∨ s.2.2 (iN y) 4 = 1 by omega) with y | y <;> rw [y] <;> rfl
    rw [hri.2]
    refine r_zret g hr (by decide) (by decide) dX4_urgent_33 (by show narrow .boolean (.int (nI (s.2.2 (iN y) 4))) = .int (nI (s.2.2 (iN y) 4)); rw [h51]; exact b2_nar _) ⟨by rw [he], by rw [he]; rfl, ?_, hU_2.frx (by have := hLo.2.2.2.2.1 _ hri.1; have := hLo.1; omega)⟩
    rw [he]
    refine ⟨la, ra, cs, C, Lz, GA, hB.setR hLo hri.1 rfl rfl (fun q => ?_) (?_ : Up1 _ _ _ _) (fun q hq => ?_), ?_, hCs, hG.fr hU_2.fr (by have := hLo.2.2.2.2.1 _ hri.1; have := hLo.1; omega), hGL, h60⟩
    · unfold up2
      simp
    · have hx := hU_2
      rw [show dobj (upd (rfS s (oc s (oi s y))) 4 (b2 on)) = dobj (rfS (s.1, s.2.1, up2 s.2.2 (iN y) 4 (if on = true then 1 else 0)) (oc s (oi s y))) from ?_] at hx
      · exact hx
      · rw [hri.2]
        unfold dobj rfS up2 upd
        simp
        exact b2_nI on
    · rw [hri.2] at hq
      unfold dobj rfS up2
      simp [hq]
    · unfold CLo at hLo ⊢
      rw [(oL_cong (s := s) (s' := (s.1, s.2.1, up2 s.2.2 (iN y) 4 (if on = true then 1 else 0))) rfl (fun q => by unfold up2; simp)).2.1]
      exact hLo
  · skip
    refine r_aload_n g dX4_urgent_0 rfl ?_
    refine r_iload_n g dX4_urgent_1 rfl ?_
    have zr := ok_c_openRide (cL k) (cG k) (cD k) (cBase k) (nx := nx) hA hB y
    rw [show rdB s ra y = none from if_neg qr] at zr
    refine r_pV g kX4_106 zr hB.1 rfl rfl rfl hnx hR (by decide) (Nat.zero_le _) (Nat.zero_le _) rfl rfl dX4_urgent_2 ?_
    refine r_astore_nN g dX4_urgent_5 rfl rfl rfl ?_
    refine r_aload_nN g dX4_urgent_6 rfl ?_
    refine r_ifnonnullN g dX4_urgent_7 ?_
    exact r_thrI g hth (Or.inl ⟨by show (sUrgent s y on).1 = 1; unfold sUrgent; rw [if_pos (by simpa using qr)], rfl⟩) (Nat.le_refl _) (List.mem_of_getElem? (i := 7) rfl) hR (by decide) (by decide) (by decide) rfl dX4_urgent_10 dX4_urgent_13 dX4_urgent_14 dX4_urgent_16 dX4_urgent_19
set_option maxHeartbeats 4000000 in
set_option maxRecDepth 100000 in
theorem ok_c_pass (l : Launch) (G : Nat → ClassId) (D : va_G) (base : Nat) (hl : l.stackTraces = false) {h : Hp} {nx x lo : Nat} {s : AS} {r : GR} (hA : AI s) (hCI : CI h x lo nx s r) (hbx : base ≤ x) (z : Int32) : MetX l G D base miX4_pass 6 1 6 [.ref x, .int z] h nx (KCr h x lo r false (sPass s z)) (KXr (sPass s z)) := by
  obtain ⟨la, ra, cs, C, Lz, GA, hB, hLo, hCs, hG, hGL, h60⟩ := hCI
  refine MetX_of hl (by decide +kernel) rfl ?_
  intro k g hr hth hR hcl hcg hcd hcb hcn hnx
  subst hcl; subst hcg; subst hcd; subst hcb
  obtain ⟨⟨hn1, hn2⟩, ht, hnc, hN, -⟩ := id hA
  have hop := hA.2.2.2.2.2.2.1
  show Sf k 0 0 h nx 0 [some (.ref x), some (.int z)] []
  refine r_iload_n g dX4_pass_0 rfl ?_
  refine r_iconst (v := 1) g dX4_pass_1 (by decide) ?_
  refine r_icmp_lt 23 g dX4_pass_2 (by decide) (fun c2 => ?_) (fun c2 => ?_)
  · skip
    have q : inR z 1 1000 = false := decide_eq_false (fun y => absurd c2 (Int32.not_lt.mpr y.1))
    have he : sPass s z = (1, 0, s) := by unfold sPass; rw [if_pos q]
    exact r_thrI g hth (Or.inl ⟨by rw [he], rfl⟩) (Nat.le_refl _) (List.mem_of_getElem? (i := 9) rfl) hR (by decide) (by decide) (by decide) rfl dX4_pass_23 dX4_pass_26 dX4_pass_27 dX4_pass_29 dX4_pass_32
  · skip
    refine r_iload_n g dX4_pass_5 rfl ?_
    refine r_sipush (v := 1000) g dX4_pass_6 (by decide) ?_
    refine r_icmp_gt 23 g dX4_pass_9 (by decide) (fun c9 => ?_) (fun c9 => ?_)
    · skip
      have q : inR z 1 1000 = false := decide_eq_false (fun y => absurd c9 (Int32.not_lt.mpr y.2))
      have he : sPass s z = (1, 0, s) := by unfold sPass; rw [if_pos q]
      exact r_thrI g hth (Or.inl ⟨by rw [he], rfl⟩) (Nat.le_refl _) (List.mem_of_getElem? (i := 9) rfl) hR (by decide) (by decide) (by decide) rfl dX4_pass_23 dX4_pass_26 dX4_pass_27 dX4_pass_29 dX4_pass_32
    · skip
      have q : inR z 1 1000 = true := decide_eq_true ⟨Int32.not_lt.mp c2, Int32.not_lt.mp c9⟩
      obtain ⟨hz1, hz2, hze⟩ := inR_at (by decide) (by decide) q
      refine r_aload_n g dX4_pass_12 rfl ?_
      refine r_getf g fX4_100 hB.1 rfl dX4_pass_13 ?_
      refine r_iload_n g dX4_pass_16 rfl ?_
      refine r_iadd g dX4_pass_17 ?_
      refine r_topi (y := (nI (s.1 1 + iN z))) (by rw [hze, nI_add, iN_nI (by omega)]) ?_
      refine r_ldc g dX4_pass_18 vX4_67 ?_
      refine r_icmp_le 33 g dX4_pass_20 (by decide) (fun c20 => ?_) (fun c20 => ?_)
      · skip
        have q2 : ¬ 100000 < s.1 1 + iN z := fun y => absurd c20 (nI_ge (a := 100000) y (by omega))
        have he : sPass s z = (0, nI (s.1 1 + iN z), (up1 s.1 1 (s.1 1 + iN z), s.2.1, s.2.2)) := by unfold sPass; rw [if_neg (by rw [q]; decide), if_neg q2]
        refine r_aload_n g dX4_pass_33 rfl ?_
        refine r_dup g dX4_pass_34 rfl ?_
        refine r_getf g fX4_100 hB.1 rfl dX4_pass_35 ?_
        refine r_iload_n g dX4_pass_38 rfl ?_
        refine r_iadd g dX4_pass_39 ?_
        refine r_topi (y := (nI (s.1 1 + iN z))) (by rw [hze, nI_add, iN_nI (by omega)]) ?_
        refine r_put1 (fs' := cobj x (up1 s.1 1 (s.1 1 + iN z), s.2.1, s.2.2)) g fX4_100 hB.1 hbx (by show 6 < 8; decide) rfl rfl rfl dX4_pass_40 ?_
        intro h_1 hU_2
        refine r_aload_n g dX4_pass_43 rfl ?_
        refine r_getf g fX4_100 hU_2.1 rfl dX4_pass_44 ?_
        refine r_iret g hr (by decide) (by decide) dX4_pass_47 ⟨by rw [he], by rw [he]; rfl, ?_, hU_2.frx (by omega)⟩
        rw [he]
        refine ⟨la, ra, cs, C, Lz, GA, ⟨hU_2.1, (hU_2.2 _ (by omega)).trans hB.2.1, (hU_2.2 _ (by omega)).trans hB.2.2.1, fun c hc => ?_, fun i hi => (hU_2.2 _ (by have := hLo.2.2.2.2.1 i hi; have := hLo.1; omega)).trans (hB.2.2.2.2 i hi)⟩, hLo, fun c hc => ?_, hG.fr hU_2.fr (by omega), hGL, h60⟩
        · obtain ⟨h1, W, CO, FI, h2, h3⟩ := hB.2.2.2.1 c hc
          have hl := hLo.2.2.1 c hc
          have h17 := hLo.1
          exact ⟨(hU_2.2 _ (by omega)).trans h1, W, CO, FI, h2.fr hU_2.fr (by omega), h3⟩
        · have h9 := hCs c hc
          unfold gdl at h9 ⊢
          show cs c ≤ 100000 ∧ cs c - (s.1 1 + iN z) = s.2.1 c 2 - (s.1 1 + iN z)
          omega
      · skip
        have q2 : 100000 < s.1 1 + iN z := Nat.lt_of_not_le (fun y => c20 (nI_le (b := 100000) y (by decide)))
        have he : sPass s z = (1, 0, s) := by unfold sPass; rw [if_neg (by rw [q]; decide), if_pos q2]
        exact r_thrI g hth (Or.inl ⟨by rw [he], rfl⟩) (Nat.le_refl _) (List.mem_of_getElem? (i := 9) rfl) hR (by decide) (by decide) (by decide) rfl dX4_pass_23 dX4_pass_26 dX4_pass_27 dX4_pass_29 dX4_pass_32
