/-! 39: the law's small methods: the class's calls, caught -/
def ovI (v : Int32) : Int64 := v.toInt64
def ovB (v : Int32) : Int64 := if v = 0 then 0 else 1
/-- outside the class and its own cells, and the cell o, all stays -/
def FrO (x lo o : Nat) (h h' : Hp) : Prop := ∀ q, (q < x ∨ x + 17 ≤ q ∧ q < lo) → q ≠ o → h' q = h q
def KH (h : Hp) (x lo o : Nat) (r : GR) (ov : Int32 → Int64) (c : Nat) (v9 : Int32) (s' : AS) : Option Value → Hp → Nat → Prop := fun v h' nx' => v = some (.int (nI c)) ∧ CI h' x lo nx' s' r ∧ FrO x lo o h h' ∧ ∃ f, h' o = some (eJ 1 f) ∧ (c = 0 → f 0 = ov v9)
def KHv (h : Hp) (x lo : Nat) (r : GR) (R : RS) : Option Value → Hp → Nat → Prop := fun v h' nx' => v = some (.int (nI R.1)) ∧ CI h' x lo nx' R.2.2 r ∧ FrX x lo h h'
theorem CI.ext {h h' : Hp} {x lo nx nx' : Nat} {s : AS} {r : GR} (hCI : CI h x lo nx s r) (hq : ∀ q, (x ≤ q ∧ q < x + 17) ∨ lo ≤ q → h' q = h q) (hn : nx ≤ nx') : CI h' x lo nx' s r := by
  obtain ⟨la, ra, cs, C, Lz, GA, hB, hLo, hCs, hG, hGL, h60⟩ := hCI
  refine ⟨la, ra, cs, C, Lz, GA, ⟨(hq _ (by omega)).trans hB.1, (hq _ (by omega)).trans hB.2.1, (hq _ (by omega)).trans hB.2.2.1, fun c hc => ?_, fun i hi => (hq _ (by have := hLo.2.2.2.2.1 i hi; omega)).trans (hB.2.2.2.2 i hi)⟩, ⟨hLo.1, Nat.le_trans hLo.2.1 hn, fun c hc => by have := hLo.2.2.1 c hc; omega, hLo.2.2.2.1, fun i hi => by have := hLo.2.2.2.2.1 i hi; omega, hLo.2.2.2.2.2.1, hLo.2.2.2.2.2.2⟩, hCs, ⟨(hq _ (by omega)).trans hG.1, fun kf hk => (hq _ (by have := goff_rng hk; omega)).trans (hG.2 kf hk)⟩, hGL, h60⟩
  obtain ⟨h1, W, CO, FI, h2, h3⟩ := hB.2.2.2.1 c hc
  have hl := hLo.2.2.1 c hc
  exact ⟨(hq _ (by omega)).trans h1, W, CO, FI, ⟨(hq _ (by omega)).trans h2.1, (hq _ (by omega)).trans h2.2.1, (hq _ (by omega)).trans h2.2.2⟩, h3⟩
theorem CI.obj {h : Hp} {x lo nx : Nat} {s : AS} {r : GR} (hCI : CI h x lo nx s r) : h x = some (eO 4 (cobj x s)) ∧ x + 17 ≤ lo ∧ lo ≤ nx := by
  obtain ⟨la, ra, cs, C, Lz, GA, hB, hLo, -⟩ := hCI
  exact ⟨hB.1, hLo.1, hLo.2.1⟩
theorem n2_Free (s : AS) (c f z : Int32) : (sFree s c f z).1 ≠ 2 := by unfold sFree; split <;> simp
theorem n2_Zone (s : AS) (c f z : Int32) : (sZone s c f z).1 ≠ 2 := by unfold sZone; split <;> simp
theorem n2_Sleep (s : AS) (c : Int32) (on : Bool) : (sSleep s c on).1 ≠ 2 := by unfold sSleep; split <;> simp
theorem n2_Urgent (s : AS) (y : Int32) (on : Bool) : (sUrgent s y on).1 ≠ 2 := by unfold sUrgent; split <;> simp
theorem n2_Begin (s : AS) (y c : Int32) : (sBegin s y c).1 ≠ 2 := by
  unfold sBegin
  split
  · simp
  · split
    · simp
    · split <;> simp
theorem n2_Done (s : AS) (y : Int32) : (sDone s y).1 ≠ 2 := by unfold sDone; split <;> simp
theorem n2_Pass (s : AS) (z : Int32) : (sPass s z).1 ≠ 2 := by
  unfold sPass
  split
  · simp
  · split <;> simp
/-- where a call of the class throws, its state is as it was -/
theorem sCar_n (s : AS) (f p : Int32) : (sCar s f p).1 ≠ 0 → (sCar s f p).2.2 = s := by
  unfold sCar
  split
  · exact fun _ => rfl
  · split
    · exact fun _ => rfl
    · exact fun z => absurd rfl z
theorem sCall_n (s : AS) (f p : Int32) : (sCall s f p).1 ≠ 0 → (sCall s f p).2.2 = s := by
  unfold sCall
  split
  · exact fun _ => rfl
  · split
    · exact fun _ => rfl
    · exact fun z => absurd rfl z
theorem sFree_n (s : AS) (c f z : Int32) : (sFree s c f z).1 ≠ 0 → (sFree s c f z).2.2 = s := by
  unfold sFree
  split
  · exact fun _ => rfl
  · exact fun z => absurd rfl z
theorem sZone_n (s : AS) (c f z : Int32) : (sZone s c f z).1 ≠ 0 → (sZone s c f z).2.2 = s := by
  unfold sZone
  split
  · exact fun _ => rfl
  · exact fun z => absurd rfl z
theorem sSleep_n (s : AS) (c : Int32) (on : Bool) : (sSleep s c on).1 ≠ 0 → (sSleep s c on).2.2 = s := by
  unfold sSleep
  split
  · exact fun _ => rfl
  · exact fun z => absurd rfl z
theorem sUrgent_n (s : AS) (c : Int32) (on : Bool) : (sUrgent s c on).1 ≠ 0 → (sUrgent s c on).2.2 = s := by
  unfold sUrgent
  split
  · exact fun _ => rfl
  · exact fun z => absurd rfl z
theorem sBegin_n (s : AS) (y c : Int32) : (sBegin s y c).1 ≠ 0 → (sBegin s y c).2.2 = s := by
  unfold sBegin
  split
  · exact fun _ => rfl
  · split
    · exact fun z => absurd rfl z
    · split
      · exact fun z => absurd rfl z
      · exact fun z => absurd rfl z
theorem sDone_n (s : AS) (y : Int32) : (sDone s y).1 ≠ 0 → (sDone s y).2.2 = s := by
  unfold sDone
  split
  · exact fun _ => rfl
  · exact fun z => absurd rfl z
theorem sPass_n (s : AS) (z : Int32) : (sPass s z).1 ≠ 0 → (sPass s z).2.2 = s := by
  unfold sPass
  split
  · exact fun _ => rfl
  · split
    · exact fun _ => rfl
    · exact fun z => absurd rfl z
theorem ovB_1 {v : Int32} (h : ¬ v = 0) : (1 : Int64) = ovB v := (if_neg h).symm
theorem ovB_0 {v : Int32} (h : v = 0) : (0 : Int64) = ovB v := (if_pos h).symm
abbrev mhL_car : Mh := ((yL_car, cL_car, 5, some .int), [(0, 10, 13, 13), (0, 10, 17, 15)])
theorem kcL_72 : CSh RL 72 mhL_car 4 := ⟨mt1 (i := 232) rfl rfl, mt1 (i := 233) rfl rfl, mt1 (i := 0) rfl rfl, mt1 (i := 234) rfl rfl, ⟨by decide +kernel, by decide +kernel⟩, by decide +kernel⟩
abbrev mhL_free : Mh := ((yL_free, cL_free, 5, some .int), [(0, 7, 10, 13)])
theorem kcL_80 : CSh RL 80 mhL_free 4 := ⟨mt2 (i := 146) rfl rfl, mt2 (i := 147) rfl rfl, mt1 (i := 0) rfl rfl, mt2 (i := 148) rfl rfl, ⟨by decide +kernel, by decide +kernel⟩, by decide +kernel⟩
abbrev mhL_zone : Mh := ((yL_zone, cL_zone, 5, some .int), [(0, 7, 10, 13)])
theorem kcL_84 : CSh RL 84 mhL_zone 4 := ⟨mt2 (i := 159) rfl rfl, mt2 (i := 160) rfl rfl, mt1 (i := 0) rfl rfl, mt2 (i := 161) rfl rfl, ⟨by decide +kernel, by decide +kernel⟩, by decide +kernel⟩
abbrev mhL_sleep : Mh := ((yL_sleep, cL_sleep, 5, some .int), [(0, 17, 20, 13)])
theorem kcL_87 : CSh RL 87 mhL_sleep 4 := ⟨mt2 (i := 167) rfl rfl, mt2 (i := 168) rfl rfl, mt1 (i := 0) rfl rfl, mt2 (i := 169) rfl rfl, ⟨by decide +kernel, by decide +kernel⟩, by decide +kernel⟩
abbrev mhL_call : Mh := ((yL_call, cL_call, 5, some .int), [(0, 10, 13, 13), (0, 10, 17, 15)])
theorem kcL_91 : CSh RL 91 mhL_call 4 := ⟨mt2 (i := 175) rfl rfl, mt2 (i := 176) rfl rfl, mt1 (i := 0) rfl rfl, mt2 (i := 177) rfl rfl, ⟨by decide +kernel, by decide +kernel⟩, by decide +kernel⟩
abbrev mhL_urgent : Mh := ((yL_urgent, cL_urgent, 5, some .int), [(0, 17, 20, 13)])
theorem kcL_94 : CSh RL 94 mhL_urgent 4 := ⟨mt2 (i := 217) rfl rfl, mt2 (i := 218) rfl rfl, mt1 (i := 0) rfl rfl, mt2 (i := 219) rfl rfl, ⟨by decide +kernel, by decide +kernel⟩, by decide +kernel⟩
abbrev mhL_begin : Mh := ((yL_begin, cL_begin, 5, some .int), [(0, 17, 20, 13)])
theorem kcL_97 : CSh RL 97 mhL_begin 4 := ⟨mt2 (i := 229) rfl rfl, mt2 (i := 230) rfl rfl, mt1 (i := 0) rfl rfl, mt2 (i := 231) rfl rfl, ⟨by decide +kernel, by decide +kernel⟩, by decide +kernel⟩
abbrev mhL_done : Mh := ((yL_done, cL_done, 3, some .int), [(0, 5, 8, 13)])
theorem kcL_100 : CSh RL 100 mhL_done 2 := ⟨mt3 (i := 1) rfl rfl, mt3 (i := 2) rfl rfl, mt1 (i := 0) rfl rfl, mt3 (i := 3) rfl rfl, ⟨by decide +kernel, by decide +kernel⟩, by decide +kernel⟩
abbrev mhL_pass : Mh := ((yL_pass, cL_pass, 4, some .int), [(0, 9, 12, 13)])
theorem kcL_104 : CSh RL 104 mhL_pass 3 := ⟨mt3 (i := 12) rfl rfl, mt3 (i := 13) rfl rfl, mt1 (i := 0) rfl rfl, mt3 (i := 14) rfl rfl, ⟨by decide +kernel, by decide +kernel⟩, by decide +kernel⟩
abbrev mhL_carOf : Mh := ((yL_carOf, cL_carOf, 4, some .int), [(0, 9, 12, 13)])
theorem kcL_113 : CSh RL 113 mhL_carOf 3 := ⟨mt3 (i := 20) rfl rfl, mt3 (i := 21) rfl rfl, mt1 (i := 0) rfl rfl, mt3 (i := 22) rfl rfl, ⟨by decide +kernel, by decide +kernel⟩, by decide +kernel⟩
abbrev mhL_turn : Mh := ((yL_turn, cL_turn, 5, some .int), [(0, 10, 13, 13)])
theorem kcL_116 : CSh RL 116 mhL_turn 4 := ⟨mt3 (i := 36) rfl rfl, mt3 (i := 37) rfl rfl, mt1 (i := 0) rfl rfl, mt3 (i := 38) rfl rfl, ⟨by decide +kernel, by decide +kernel⟩, by decide +kernel⟩
abbrev mhL_told : Mh := ((yL_told, cL_told, 5, some .int), [(0, 10, 13, 13)])
theorem kcL_119 : CSh RL 119 mhL_told 4 := ⟨mt3 (i := 48) rfl rfl, mt3 (i := 49) rfl rfl, mt1 (i := 0) rfl rfl, mt3 (i := 50) rfl rfl, ⟨by decide +kernel, by decide +kernel⟩, by decide +kernel⟩
abbrev mhL_cars : Mh := ((yL_cars, cL_cars, 4, some .int), [(0, 9, 12, 13)])
theorem kcL_126 : CSh RL 126 mhL_cars 3 := ⟨mt3 (i := 56) rfl rfl, mt3 (i := 57) rfl rfl, mt1 (i := 0) rfl rfl, mt3 (i := 58) rfl rfl, ⟨by decide +kernel, by decide +kernel⟩, by decide +kernel⟩
abbrev mhL_weight : Mh := ((yL_weight, cL_weight, 4, some .int), [(0, 9, 12, 13)])
theorem kcL_133 : CSh RL 133 mhL_weight 3 := ⟨mt3 (i := 63) rfl rfl, mt3 (i := 64) rfl rfl, mt1 (i := 0) rfl rfl, mt3 (i := 65) rfl rfl, ⟨by decide +kernel, by decide +kernel⟩, by decide +kernel⟩
set_option maxHeartbeats 4000000 in
set_option maxRecDepth 100000 in
theorem ok_l_car (l : Launch) (G : Nat → ClassId) (D : va_G) (base : Nat) (hl : l.stackTraces = false) {h : Hp} {nx x lo o : Nat} {s : AS} {r : GR} {f9 : Nat → Int64} (hA : AI s) (hCI : CI h x lo nx s r) (hbx : base ≤ x) (ho : h o = some (eJ 1 f9)) (ho1 : x + 17 ≤ o) (ho2 : o < lo) (f : Int32) (p : Int32) : MetC l G D base mhL_car 7 4 909 [.ref x, .int f, .int p, .ref o] h nx (KH h x lo o r ovI (sCar s f p).1 (sCar s f p).2.1 (sCar s f p).2.2) := by
  refine MetC_of (by decide +kernel) rfl ?_
  intro k g hr htb hR hcl hcg hcd hcb hnx
  subst hcl; subst hcg; subst hcd; subst hcb
  obtain ⟨hx0, h17, hln⟩ := hCI.obj
  show Sf k 0 0 h nx 0 [some (.ref x), some (.int f), some (.int p), some (.ref o), none] []
  refine r_aload_n g dL_car_0 rfl ?_
  refine r_iconst (v := 0) g dL_car_1 (by decide) ?_
  refine r_aload_n g dL_car_2 rfl ?_
  refine r_iload_n g dL_car_3 rfl ?_
  refine r_iload_n g dL_car_4 rfl ?_
  refine r_callVX g kL_7 (ok_c_car _ _ _ _ hl hA hCI hbx f p) hCI.obj.1 rfl rfl rfl hnx hR (by decide) (by decide) (by decide) rfl rfl dL_car_5 (fun v h1 nx1 hK hle => ?_) (fun E9 nx1 hK hle => ?_)
  · skip
    obtain ⟨hR0, hv, hCI1, hFr⟩ := hK
    have hv2 : v = some (.int (sCar s f p).2.1) := hv
    subst hv2
    refine r_i2l g dL_car_8 ?_
    refine r_last (j := 0) g ((hFr o (Or.inr ⟨ho1, ho2⟩)).trans ho) (by omega) rfl (by decide) (by decide) dL_car_9 ?_
    obtain ⟨h_1, eh_1, hU_2⟩ : ∃ z, z = _ ∧ Up1 _ z o _ := ⟨_, rfl, Up1.of _ _ _⟩
    rw [← eh_1]
    refine r_goto 21 g dL_car_10 (by decide) ?_
    refine r_iconst (v := 0) g dL_car_21 (by decide) ?_
    exact r_iret g hr (by decide) (by decide) dL_car_22 ⟨congrArg (fun z => some (Value.int (nI z))) hR0.symm, hCI1.ext (fun q hq => hU_2.2 q (by omega)) (Nat.le_refl _), fun q hq hq2 => (hU_2.2 q hq2).trans (hFr q hq), _, hU_2.1, fun _ => (if_pos rfl).trans (rfl)⟩
  · skip
    rcases hK with ⟨hR1, rfl⟩ | ⟨hR1, rfl⟩
    · skip
      refine r_catchI g htb rfl (fun q => ?_)
      refine r_astore g dL_car_13 rfl rfl rfl ?_
      refine r_iconst (v := 1) g dL_car_15 (by decide) ?_
      exact r_iret g hr (by decide) (by decide) dL_car_16 ⟨by rw [hR1]; rfl, by rw [sCar_n s f p (by rw [hR1]; decide)]; exact hCI.ext (fun _ _ => rfl) hle, fun _ _ _ => rfl, _, ho, fun z => absurd (hR1.symm.trans z) (by decide)⟩
    · skip
      refine r_catchS g htb rfl (fun q => ?_)
      refine r_astore g dL_car_17 rfl rfl rfl ?_
      refine r_iconst (v := 2) g dL_car_19 (by decide) ?_
      exact r_iret g hr (by decide) (by decide) dL_car_20 ⟨by rw [hR1]; rfl, by rw [sCar_n s f p (by rw [hR1]; decide)]; exact hCI.ext (fun _ _ => rfl) hle, fun _ _ _ => rfl, _, ho, fun z => absurd (hR1.symm.trans z) (by decide)⟩
set_option maxHeartbeats 4000000 in
set_option maxRecDepth 100000 in
theorem ok_l_free (l : Launch) (G : Nat → ClassId) (D : va_G) (base : Nat) (hl : l.stackTraces = false) {h : Hp} {nx x lo o : Nat} {s : AS} {r : GR} (hA : AI s) (hCI : CI h x lo nx s r) (hbx : base ≤ x) (c : Int32) (f : Int32) (z : Int32) : MetC l G D base mhL_free 7 1 6 [.ref x, .int c, .int f, .int z] h nx (KHv h x lo r (sFree s c f z)) := by
  refine MetC_of (by decide +kernel) rfl ?_
  intro k g hr htb hR hcl hcg hcd hcb hnx
  subst hcl; subst hcg; subst hcd; subst hcb
  obtain ⟨hx0, h17, hln⟩ := hCI.obj
  show Sf k 0 0 h nx 0 [some (.ref x), some (.int c), some (.int f), some (.int z), none] []
  refine r_aload_n g dL_free_0 rfl ?_
  refine r_iload_n g dL_free_1 rfl ?_
  refine r_iload_n g dL_free_2 rfl ?_
  refine r_iload_n g dL_free_3 rfl ?_
  refine r_callVX g kL_17 (ok_c_free _ _ _ _ hl hA hCI hbx c f z) hCI.obj.1 rfl rfl rfl hnx hR (by decide) (by decide) (by decide) rfl rfl dL_free_4 (fun v h1 nx1 hK hle => ?_) (fun E9 nx1 hK hle => ?_)
  · skip
    obtain ⟨hR0, hv, hCI1, hFr⟩ := hK
    have hv2 : v = none := hv
    subst hv2
    refine r_goto 14 g dL_free_7 (by decide) ?_
    refine r_iconst (v := 0) g dL_free_14 (by decide) ?_
    exact r_iret g hr (by decide) (by decide) dL_free_15 ⟨congrArg (fun z => some (Value.int (nI z))) hR0.symm, hCI1, hFr⟩
  · skip
    obtain ⟨hR1, rfl⟩ := hK.resolve_right (fun y8 => n2_Free s c f z y8.1)
    refine r_catchI g htb rfl (fun q => ?_)
    refine r_astore g dL_free_10 rfl rfl rfl ?_
    refine r_iconst (v := 1) g dL_free_12 (by decide) ?_
    exact r_iret g hr (by decide) (by decide) dL_free_13 ⟨by rw [hR1]; rfl, by rw [sFree_n s c f z (by rw [hR1]; decide)]; exact hCI.ext (fun _ _ => rfl) hle, FrX.rf⟩
set_option maxHeartbeats 4000000 in
set_option maxRecDepth 100000 in
theorem ok_l_zone (l : Launch) (G : Nat → ClassId) (D : va_G) (base : Nat) (hl : l.stackTraces = false) {h : Hp} {nx x lo o : Nat} {s : AS} {r : GR} (hA : AI s) (hCI : CI h x lo nx s r) (hbx : base ≤ x) (c : Int32) (f : Int32) (z : Int32) : MetC l G D base mhL_zone 7 1 6 [.ref x, .int c, .int f, .int z] h nx (KHv h x lo r (sZone s c f z)) := by
  refine MetC_of (by decide +kernel) rfl ?_
  intro k g hr htb hR hcl hcg hcd hcb hnx
  subst hcl; subst hcg; subst hcd; subst hcb
  obtain ⟨hx0, h17, hln⟩ := hCI.obj
  show Sf k 0 0 h nx 0 [some (.ref x), some (.int c), some (.int f), some (.int z), none] []
  refine r_aload_n g dL_zone_0 rfl ?_
  refine r_iload_n g dL_zone_1 rfl ?_
  refine r_iload_n g dL_zone_2 rfl ?_
  refine r_iload_n g dL_zone_3 rfl ?_
  refine r_callVX g kL_21 (ok_c_zone _ _ _ _ hl hA hCI hbx c f z) hCI.obj.1 rfl rfl rfl hnx hR (by decide) (by decide) (by decide) rfl rfl dL_zone_4 (fun v h1 nx1 hK hle => ?_) (fun E9 nx1 hK hle => ?_)
  · skip
    obtain ⟨hR0, hv, hCI1, hFr⟩ := hK
    have hv2 : v = none := hv
    subst hv2
    refine r_goto 14 g dL_zone_7 (by decide) ?_
    refine r_iconst (v := 0) g dL_zone_14 (by decide) ?_
    exact r_iret g hr (by decide) (by decide) dL_zone_15 ⟨congrArg (fun z => some (Value.int (nI z))) hR0.symm, hCI1, hFr⟩
  · skip
    obtain ⟨hR1, rfl⟩ := hK.resolve_right (fun y8 => n2_Zone s c f z y8.1)
    refine r_catchI g htb rfl (fun q => ?_)
    refine r_astore g dL_zone_10 rfl rfl rfl ?_
    refine r_iconst (v := 1) g dL_zone_12 (by decide) ?_
    exact r_iret g hr (by decide) (by decide) dL_zone_13 ⟨by rw [hR1]; rfl, by rw [sZone_n s c f z (by rw [hR1]; decide)]; exact hCI.ext (fun _ _ => rfl) hle, FrX.rf⟩
set_option maxHeartbeats 4000000 in
set_option maxRecDepth 100000 in
theorem ok_l_sleep (l : Launch) (G : Nat → ClassId) (D : va_G) (base : Nat) (hl : l.stackTraces = false) {h : Hp} {nx x lo o : Nat} {s : AS} {r : GR} {f9 : Nat → Int64} (hA : AI s) (hCI : CI h x lo nx s r) (hbx : base ≤ x) (ho : h o = some (eJ 1 f9)) (ho1 : x + 17 ≤ o) (ho2 : o < lo) (c : Int32) (on : Bool) : MetC l G D base mhL_sleep 7 1 6 [.ref x, .int c, .int (b2 on), .ref o] h nx (KH h x lo o r ovB (sSleep s c on).1 (sSleep s c on).2.1 (sSleep s c on).2.2) := by
  refine MetC_of (by decide +kernel) rfl ?_
  intro k g hr htb hR hcl hcg hcd hcb hnx
  subst hcl; subst hcg; subst hcd; subst hcb
  obtain ⟨hx0, h17, hln⟩ := hCI.obj
  show Sf k 0 0 h nx 0 [some (.ref x), some (.int c), some (.int (b2 on)), some (.ref o), none] []
  refine r_aload_n g dL_sleep_0 rfl ?_
  refine r_iconst (v := 0) g dL_sleep_1 (by decide) ?_
  refine r_aload_n g dL_sleep_2 rfl ?_
  refine r_iload_n g dL_sleep_3 rfl ?_
  refine r_iload_n g dL_sleep_4 rfl ?_
  refine r_callVX g kL_24 (ok_c_sleep _ _ _ _ hl hA hCI hbx c on) hCI.obj.1 rfl rfl rfl hnx hR (by decide) (by decide) (by decide) rfl rfl dL_sleep_5 (fun v h1 nx1 hK hle => ?_) (fun E9 nx1 hK hle => ?_)
  · skip
    obtain ⟨hR0, hv, hCI1, hFr⟩ := hK
    have hv2 : v = some (.int (sSleep s c on).2.1) := hv
    subst hv2
    refine r_if_eq 15 g dL_sleep_8 (by decide) (fun c8 => ?_) (fun c8 => ?_)
    · skip
      have qb : (sSleep s c on).2.1 = 0 := c8
      refine r_lconst (v := 0) g dL_sleep_15 (by decide) ?_
      refine r_last (j := 0) g ((hFr o (Or.inr ⟨ho1, ho2⟩)).trans ho) (by omega) rfl (by decide) (by decide) dL_sleep_16 ?_
      obtain ⟨h_1, eh_1, hU_2⟩ : ∃ z, z = _ ∧ Up1 _ z o _ := ⟨_, rfl, Up1.of _ _ _⟩
      rw [← eh_1]
      refine r_goto 24 g dL_sleep_17 (by decide) ?_
      refine r_iconst (v := 0) g dL_sleep_24 (by decide) ?_
      exact r_iret g hr (by decide) (by decide) dL_sleep_25 ⟨congrArg (fun z => some (Value.int (nI z))) hR0.symm, hCI1.ext (fun q hq => hU_2.2 q (by omega)) (Nat.le_refl _), fun q hq hq2 => (hU_2.2 q hq2).trans (hFr q hq), _, hU_2.1, fun _ => (if_pos rfl).trans (ovB_0 qb)⟩
    · skip
      have qb : ¬ (sSleep s c on).2.1 = 0 := c8
      refine r_lconst (v := 1) g dL_sleep_11 (by decide) ?_
      refine r_goto 16 g dL_sleep_12 (by decide) ?_
      refine r_last (j := 0) g ((hFr o (Or.inr ⟨ho1, ho2⟩)).trans ho) (by omega) rfl (by decide) (by decide) dL_sleep_16 ?_
      obtain ⟨h_3, eh_3, hU_4⟩ : ∃ z, z = _ ∧ Up1 _ z o _ := ⟨_, rfl, Up1.of _ _ _⟩
      rw [← eh_3]
      refine r_goto 24 g dL_sleep_17 (by decide) ?_
      refine r_iconst (v := 0) g dL_sleep_24 (by decide) ?_
      exact r_iret g hr (by decide) (by decide) dL_sleep_25 ⟨congrArg (fun z => some (Value.int (nI z))) hR0.symm, hCI1.ext (fun q hq => hU_4.2 q (by omega)) (Nat.le_refl _), fun q hq hq2 => (hU_4.2 q hq2).trans (hFr q hq), _, hU_4.1, fun _ => (if_pos rfl).trans (ovB_1 qb)⟩
  · skip
    obtain ⟨hR1, rfl⟩ := hK.resolve_right (fun y8 => n2_Sleep s c on y8.1)
    refine r_catchI g htb rfl (fun q => ?_)
    refine r_astore g dL_sleep_20 rfl rfl rfl ?_
    refine r_iconst (v := 1) g dL_sleep_22 (by decide) ?_
    exact r_iret g hr (by decide) (by decide) dL_sleep_23 ⟨by rw [hR1]; rfl, by rw [sSleep_n s c on (by rw [hR1]; decide)]; exact hCI.ext (fun _ _ => rfl) hle, fun _ _ _ => rfl, _, ho, fun z => absurd (hR1.symm.trans z) (by decide)⟩
set_option maxHeartbeats 4000000 in
set_option maxRecDepth 100000 in
theorem ok_l_call (l : Launch) (G : Nat → ClassId) (D : va_G) (base : Nat) (hl : l.stackTraces = false) {h : Hp} {nx x lo o : Nat} {s : AS} {r : GR} {f9 : Nat → Int64} (hA : AI s) (hCI : CI h x lo nx s r) (hbx : base ≤ x) (ho : h o = some (eJ 1 f9)) (ho1 : x + 17 ≤ o) (ho2 : o < lo) (f : Int32) (t : Int32) : MetC l G D base mhL_call 7 1 6 [.ref x, .int f, .int t, .ref o] h nx (KH h x lo o r ovI (sCall s f t).1 (sCall s f t).2.1 (sCall s f t).2.2) := by
  refine MetC_of (by decide +kernel) rfl ?_
  intro k g hr htb hR hcl hcg hcd hcb hnx
  subst hcl; subst hcg; subst hcd; subst hcb
  obtain ⟨hx0, h17, hln⟩ := hCI.obj
  show Sf k 0 0 h nx 0 [some (.ref x), some (.int f), some (.int t), some (.ref o), none] []
  refine r_aload_n g dL_call_0 rfl ?_
  refine r_iconst (v := 0) g dL_call_1 (by decide) ?_
  refine r_aload_n g dL_call_2 rfl ?_
  refine r_iload_n g dL_call_3 rfl ?_
  refine r_iload_n g dL_call_4 rfl ?_
  refine r_callVX g kL_28 (ok_c_call _ _ _ _ hl hA hCI hbx f t) hCI.obj.1 rfl rfl rfl hnx hR (by decide) (by decide) (by decide) rfl rfl dL_call_5 (fun v h1 nx1 hK hle => ?_) (fun E9 nx1 hK hle => ?_)
  · skip
    obtain ⟨hR0, hv, hCI1, hFr⟩ := hK
    have hv2 : v = some (.int (sCall s f t).2.1) := hv
    subst hv2
    refine r_i2l g dL_call_8 ?_
    refine r_last (j := 0) g ((hFr o (Or.inr ⟨ho1, ho2⟩)).trans ho) (by omega) rfl (by decide) (by decide) dL_call_9 ?_
    obtain ⟨h_1, eh_1, hU_2⟩ : ∃ z, z = _ ∧ Up1 _ z o _ := ⟨_, rfl, Up1.of _ _ _⟩
    rw [← eh_1]
    refine r_goto 21 g dL_call_10 (by decide) ?_
    refine r_iconst (v := 0) g dL_call_21 (by decide) ?_
    exact r_iret g hr (by decide) (by decide) dL_call_22 ⟨congrArg (fun z => some (Value.int (nI z))) hR0.symm, hCI1.ext (fun q hq => hU_2.2 q (by omega)) (Nat.le_refl _), fun q hq hq2 => (hU_2.2 q hq2).trans (hFr q hq), _, hU_2.1, fun _ => (if_pos rfl).trans (rfl)⟩
  · skip
    rcases hK with ⟨hR1, rfl⟩ | ⟨hR1, rfl⟩
    · skip
      refine r_catchI g htb rfl (fun q => ?_)
      refine r_astore g dL_call_13 rfl rfl rfl ?_
      refine r_iconst (v := 1) g dL_call_15 (by decide) ?_
      exact r_iret g hr (by decide) (by decide) dL_call_16 ⟨by rw [hR1]; rfl, by rw [sCall_n s f t (by rw [hR1]; decide)]; exact hCI.ext (fun _ _ => rfl) hle, fun _ _ _ => rfl, _, ho, fun z => absurd (hR1.symm.trans z) (by decide)⟩
    · skip
      refine r_catchS g htb rfl (fun q => ?_)
      refine r_astore g dL_call_17 rfl rfl rfl ?_
      refine r_iconst (v := 2) g dL_call_19 (by decide) ?_
      exact r_iret g hr (by decide) (by decide) dL_call_20 ⟨by rw [hR1]; rfl, by rw [sCall_n s f t (by rw [hR1]; decide)]; exact hCI.ext (fun _ _ => rfl) hle, fun _ _ _ => rfl, _, ho, fun z => absurd (hR1.symm.trans z) (by decide)⟩
set_option maxHeartbeats 4000000 in
set_option maxRecDepth 100000 in
theorem ok_l_urgent (l : Launch) (G : Nat → ClassId) (D : va_G) (base : Nat) (hl : l.stackTraces = false) {h : Hp} {nx x lo o : Nat} {s : AS} {r : GR} {f9 : Nat → Int64} (hA : AI s) (hCI : CI h x lo nx s r) (hbx : base ≤ x) (ho : h o = some (eJ 1 f9)) (ho1 : x + 17 ≤ o) (ho2 : o < lo) (y : Int32) (on : Bool) : MetC l G D base mhL_urgent 7 1 6 [.ref x, .int y, .int (b2 on), .ref o] h nx (KH h x lo o r ovB (sUrgent s y on).1 (sUrgent s y on).2.1 (sUrgent s y on).2.2) := by
  refine MetC_of (by decide +kernel) rfl ?_
  intro k g hr htb hR hcl hcg hcd hcb hnx
  subst hcl; subst hcg; subst hcd; subst hcb
  obtain ⟨hx0, h17, hln⟩ := hCI.obj
  show Sf k 0 0 h nx 0 [some (.ref x), some (.int y), some (.int (b2 on)), some (.ref o), none] []
  refine r_aload_n g dL_urgent_0 rfl ?_
  refine r_iconst (v := 0) g dL_urgent_1 (by decide) ?_
  refine r_aload_n g dL_urgent_2 rfl ?_
  refine r_iload_n g dL_urgent_3 rfl ?_
  refine r_iload_n g dL_urgent_4 rfl ?_
  refine r_callVX g kL_31 (ok_c_urgent _ _ _ _ hl hA hCI hbx y on) hCI.obj.1 rfl rfl rfl hnx hR (by decide) (by decide) (by decide) rfl rfl dL_urgent_5 (fun v h1 nx1 hK hle => ?_) (fun E9 nx1 hK hle => ?_)
  · skip
    obtain ⟨hR0, hv, hCI1, hFr⟩ := hK
    have hv2 : v = some (.int (sUrgent s y on).2.1) := hv
    subst hv2
    refine r_if_eq 15 g dL_urgent_8 (by decide) (fun c8 => ?_) (fun c8 => ?_)
    · skip
      have qb : (sUrgent s y on).2.1 = 0 := c8
      refine r_lconst (v := 0) g dL_urgent_15 (by decide) ?_
      refine r_last (j := 0) g ((hFr o (Or.inr ⟨ho1, ho2⟩)).trans ho) (by omega) rfl (by decide) (by decide) dL_urgent_16 ?_
      obtain ⟨h_1, eh_1, hU_2⟩ : ∃ z, z = _ ∧ Up1 _ z o _ := ⟨_, rfl, Up1.of _ _ _⟩
      rw [← eh_1]
      refine r_goto 24 g dL_urgent_17 (by decide) ?_
      refine r_iconst (v := 0) g dL_urgent_24 (by decide) ?_
      exact r_iret g hr (by decide) (by decide) dL_urgent_25 ⟨congrArg (fun z => some (Value.int (nI z))) hR0.symm, hCI1.ext (fun q hq => hU_2.2 q (by omega)) (Nat.le_refl _), fun q hq hq2 => (hU_2.2 q hq2).trans (hFr q hq), _, hU_2.1, fun _ => (if_pos rfl).trans (ovB_0 qb)⟩
    · skip
      have qb : ¬ (sUrgent s y on).2.1 = 0 := c8
      refine r_lconst (v := 1) g dL_urgent_11 (by decide) ?_
      refine r_goto 16 g dL_urgent_12 (by decide) ?_
      refine r_last (j := 0) g ((hFr o (Or.inr ⟨ho1, ho2⟩)).trans ho) (by omega) rfl (by decide) (by decide) dL_urgent_16 ?_
      obtain ⟨h_3, eh_3, hU_4⟩ : ∃ z, z = _ ∧ Up1 _ z o _ := ⟨_, rfl, Up1.of _ _ _⟩
      rw [← eh_3]
      refine r_goto 24 g dL_urgent_17 (by decide) ?_
      refine r_iconst (v := 0) g dL_urgent_24 (by decide) ?_
      exact r_iret g hr (by decide) (by decide) dL_urgent_25 ⟨congrArg (fun z => some (Value.int (nI z))) hR0.symm, hCI1.ext (fun q hq => hU_4.2 q (by omega)) (Nat.le_refl _), fun q hq hq2 => (hU_4.2 q hq2).trans (hFr q hq), _, hU_4.1, fun _ => (if_pos rfl).trans (ovB_1 qb)⟩
  · skip
    obtain ⟨hR1, rfl⟩ := hK.resolve_right (fun y8 => n2_Urgent s y on y8.1)
    refine r_catchI g htb rfl (fun q => ?_)
    refine r_astore g dL_urgent_20 rfl rfl rfl ?_
    refine r_iconst (v := 1) g dL_urgent_22 (by decide) ?_
    exact r_iret g hr (by decide) (by decide) dL_urgent_23 ⟨by rw [hR1]; rfl, by rw [sUrgent_n s y on (by rw [hR1]; decide)]; exact hCI.ext (fun _ _ => rfl) hle, fun _ _ _ => rfl, _, ho, fun z => absurd (hR1.symm.trans z) (by decide)⟩
set_option maxHeartbeats 4000000 in
set_option maxRecDepth 100000 in
theorem ok_l_begin (l : Launch) (G : Nat → ClassId) (D : va_G) (base : Nat) (hl : l.stackTraces = false) {h : Hp} {nx x lo o : Nat} {s : AS} {r : GR} {f9 : Nat → Int64} (hA : AI s) (hCI : CI h x lo nx s r) (hbx : base ≤ x) (ho : h o = some (eJ 1 f9)) (ho1 : x + 17 ≤ o) (ho2 : o < lo) (y : Int32) (c : Int32) : MetC l G D base mhL_begin 7 1 6 [.ref x, .int y, .int c, .ref o] h nx (KH h x lo o r ovB (sBegin s y c).1 (sBegin s y c).2.1 (sBegin s y c).2.2) := by
  refine MetC_of (by decide +kernel) rfl ?_
  intro k g hr htb hR hcl hcg hcd hcb hnx
  subst hcl; subst hcg; subst hcd; subst hcb
  obtain ⟨hx0, h17, hln⟩ := hCI.obj
  show Sf k 0 0 h nx 0 [some (.ref x), some (.int y), some (.int c), some (.ref o), none] []
  refine r_aload_n g dL_begin_0 rfl ?_
  refine r_iconst (v := 0) g dL_begin_1 (by decide) ?_
  refine r_aload_n g dL_begin_2 rfl ?_
  refine r_iload_n g dL_begin_3 rfl ?_
  refine r_iload_n g dL_begin_4 rfl ?_
  refine r_callVX g kL_34 (ok_c_begin _ _ _ _ hl hA hCI hbx y c) hCI.obj.1 rfl rfl rfl hnx hR (by decide) (by decide) (by decide) rfl rfl dL_begin_5 (fun v h1 nx1 hK hle => ?_) (fun E9 nx1 hK hle => ?_)
  · skip
    obtain ⟨hR0, hv, hCI1, hFr⟩ := hK
    have hv2 : v = some (.int (sBegin s y c).2.1) := hv
    subst hv2
    refine r_if_eq 15 g dL_begin_8 (by decide) (fun c8 => ?_) (fun c8 => ?_)
    · skip
      have qb : (sBegin s y c).2.1 = 0 := c8
      refine r_lconst (v := 0) g dL_begin_15 (by decide) ?_
      refine r_last (j := 0) g ((hFr o (Or.inr ⟨ho1, ho2⟩)).trans ho) (by omega) rfl (by decide) (by decide) dL_begin_16 ?_
      obtain ⟨h_1, eh_1, hU_2⟩ : ∃ z, z = _ ∧ Up1 _ z o _ := ⟨_, rfl, Up1.of _ _ _⟩
      rw [← eh_1]
      refine r_goto 24 g dL_begin_17 (by decide) ?_
      refine r_iconst (v := 0) g dL_begin_24 (by decide) ?_
      exact r_iret g hr (by decide) (by decide) dL_begin_25 ⟨congrArg (fun z => some (Value.int (nI z))) hR0.symm, hCI1.ext (fun q hq => hU_2.2 q (by omega)) (Nat.le_refl _), fun q hq hq2 => (hU_2.2 q hq2).trans (hFr q hq), _, hU_2.1, fun _ => (if_pos rfl).trans (ovB_0 qb)⟩
    · skip
      have qb : ¬ (sBegin s y c).2.1 = 0 := c8
      refine r_lconst (v := 1) g dL_begin_11 (by decide) ?_
      refine r_goto 16 g dL_begin_12 (by decide) ?_
      refine r_last (j := 0) g ((hFr o (Or.inr ⟨ho1, ho2⟩)).trans ho) (by omega) rfl (by decide) (by decide) dL_begin_16 ?_
      obtain ⟨h_3, eh_3, hU_4⟩ : ∃ z, z = _ ∧ Up1 _ z o _ := ⟨_, rfl, Up1.of _ _ _⟩
      rw [← eh_3]
      refine r_goto 24 g dL_begin_17 (by decide) ?_
      refine r_iconst (v := 0) g dL_begin_24 (by decide) ?_
      exact r_iret g hr (by decide) (by decide) dL_begin_25 ⟨congrArg (fun z => some (Value.int (nI z))) hR0.symm, hCI1.ext (fun q hq => hU_4.2 q (by omega)) (Nat.le_refl _), fun q hq hq2 => (hU_4.2 q hq2).trans (hFr q hq), _, hU_4.1, fun _ => (if_pos rfl).trans (ovB_1 qb)⟩
  · skip
    obtain ⟨hR1, rfl⟩ := hK.resolve_right (fun y8 => n2_Begin s y c y8.1)
    refine r_catchI g htb rfl (fun q => ?_)
    refine r_astore g dL_begin_20 rfl rfl rfl ?_
    refine r_iconst (v := 1) g dL_begin_22 (by decide) ?_
    exact r_iret g hr (by decide) (by decide) dL_begin_23 ⟨by rw [hR1]; rfl, by rw [sBegin_n s y c (by rw [hR1]; decide)]; exact hCI.ext (fun _ _ => rfl) hle, fun _ _ _ => rfl, _, ho, fun z => absurd (hR1.symm.trans z) (by decide)⟩
set_option maxHeartbeats 4000000 in
set_option maxRecDepth 100000 in
theorem ok_l_done (l : Launch) (G : Nat → ClassId) (D : va_G) (base : Nat) (hl : l.stackTraces = false) {h : Hp} {nx x lo o : Nat} {s : AS} {r : GR} (hA : AI s) (hCI : CI h x lo nx s r) (hbx : base ≤ x) (y : Int32) : MetC l G D base mhL_done 7 1 6 [.ref x, .int y] h nx (KHv h x lo r (sDone s y)) := by
  refine MetC_of (by decide +kernel) rfl ?_
  intro k g hr htb hR hcl hcg hcd hcb hnx
  subst hcl; subst hcg; subst hcd; subst hcb
  obtain ⟨hx0, h17, hln⟩ := hCI.obj
  show Sf k 0 0 h nx 0 [some (.ref x), some (.int y), none] []
  refine r_aload_n g dL_done_0 rfl ?_
  refine r_iload_n g dL_done_1 rfl ?_
  refine r_callVX g kL_38 (ok_c_done _ _ _ _ hl hA hCI hbx y) hCI.obj.1 rfl rfl rfl hnx hR (by decide) (by decide) (by decide) rfl rfl dL_done_2 (fun v h1 nx1 hK hle => ?_) (fun E9 nx1 hK hle => ?_)
  · skip
    obtain ⟨hR0, hv, hCI1, hFr⟩ := hK
    have hv2 : v = none := hv
    subst hv2
    refine r_goto 11 g dL_done_5 (by decide) ?_
    refine r_iconst (v := 0) g dL_done_11 (by decide) ?_
    exact r_iret g hr (by decide) (by decide) dL_done_12 ⟨congrArg (fun z => some (Value.int (nI z))) hR0.symm, hCI1, hFr⟩
  · skip
    obtain ⟨hR1, rfl⟩ := hK.resolve_right (fun y8 => n2_Done s y y8.1)
    refine r_catchI g htb rfl (fun q => ?_)
    refine r_astore_n g dL_done_8 rfl rfl rfl ?_
    refine r_iconst (v := 1) g dL_done_9 (by decide) ?_
    exact r_iret g hr (by decide) (by decide) dL_done_10 ⟨by rw [hR1]; rfl, by rw [sDone_n s y (by rw [hR1]; decide)]; exact hCI.ext (fun _ _ => rfl) hle, FrX.rf⟩
set_option maxHeartbeats 4000000 in
set_option maxRecDepth 100000 in
theorem ok_l_pass (l : Launch) (G : Nat → ClassId) (D : va_G) (base : Nat) (hl : l.stackTraces = false) {h : Hp} {nx x lo o : Nat} {s : AS} {r : GR} {f9 : Nat → Int64} (hA : AI s) (hCI : CI h x lo nx s r) (hbx : base ≤ x) (ho : h o = some (eJ 1 f9)) (ho1 : x + 17 ≤ o) (ho2 : o < lo) (z : Int32) : MetC l G D base mhL_pass 7 1 6 [.ref x, .int z, .ref o] h nx (KH h x lo o r ovI (sPass s z).1 (sPass s z).2.1 (sPass s z).2.2) := by
  refine MetC_of (by decide +kernel) rfl ?_
  intro k g hr htb hR hcl hcg hcd hcb hnx
  subst hcl; subst hcg; subst hcd; subst hcb
  obtain ⟨hx0, h17, hln⟩ := hCI.obj
  show Sf k 0 0 h nx 0 [some (.ref x), some (.int z), some (.ref o), none] []
  refine r_aload_n g dL_pass_0 rfl ?_
  refine r_iconst (v := 0) g dL_pass_1 (by decide) ?_
  refine r_aload_n g dL_pass_2 rfl ?_
  refine r_iload_n g dL_pass_3 rfl ?_
  refine r_callVX g kL_42 (ok_c_pass _ _ _ _ hl hA hCI hbx z) hCI.obj.1 rfl rfl rfl hnx hR (by decide) (by decide) (by decide) rfl rfl dL_pass_4 (fun v h1 nx1 hK hle => ?_) (fun E9 nx1 hK hle => ?_)
  · skip
    obtain ⟨hR0, hv, hCI1, hFr⟩ := hK
    have hv2 : v = some (.int (sPass s z).2.1) := hv
    subst hv2
    refine r_i2l g dL_pass_7 ?_
    refine r_last (j := 0) g ((hFr o (Or.inr ⟨ho1, ho2⟩)).trans ho) (by omega) rfl (by decide) (by decide) dL_pass_8 ?_
    obtain ⟨h_1, eh_1, hU_2⟩ : ∃ z, z = _ ∧ Up1 _ z o _ := ⟨_, rfl, Up1.of _ _ _⟩
    rw [← eh_1]
    refine r_goto 15 g dL_pass_9 (by decide) ?_
    refine r_iconst (v := 0) g dL_pass_15 (by decide) ?_
    exact r_iret g hr (by decide) (by decide) dL_pass_16 ⟨congrArg (fun z => some (Value.int (nI z))) hR0.symm, hCI1.ext (fun q hq => hU_2.2 q (by omega)) (Nat.le_refl _), fun q hq hq2 => (hU_2.2 q hq2).trans (hFr q hq), _, hU_2.1, fun _ => (if_pos rfl).trans (rfl)⟩
  · skip
    obtain ⟨hR1, rfl⟩ := hK.resolve_right (fun y8 => n2_Pass s z y8.1)
    refine r_catchI g htb rfl (fun q => ?_)
    refine r_astore_n g dL_pass_12 rfl rfl rfl ?_
    refine r_iconst (v := 1) g dL_pass_13 (by decide) ?_
    exact r_iret g hr (by decide) (by decide) dL_pass_14 ⟨by rw [hR1]; rfl, by rw [sPass_n s z (by rw [hR1]; decide)]; exact hCI.ext (fun _ _ => rfl) hle, fun _ _ _ => rfl, _, ho, fun z => absurd (hR1.symm.trans z) (by decide)⟩
set_option maxHeartbeats 4000000 in
set_option maxRecDepth 100000 in
theorem ok_l_carOf (l : Launch) (G : Nat → ClassId) (D : va_G) (base : Nat) (hl : l.stackTraces = false) {h : Hp} {nx x lo o : Nat} {s : AS} {r : GR} {f9 : Nat → Int64} (hA : AI s) (hCI : CI h x lo nx s r) (hbx : base ≤ x) (ho : h o = some (eJ 1 f9)) (ho1 : x + 17 ≤ o) (ho2 : o < lo) (y : Int32) : MetC l G D base mhL_carOf 7 1 6 [.ref x, .int y, .ref o] h nx (KH h x lo o r ovI (sCarOf s r y).1 (sCarOf s r y).2 s) := by
  refine MetC_of (by decide +kernel) rfl ?_
  intro k g hr htb hR hcl hcg hcd hcb hnx
  subst hcl; subst hcg; subst hcd; subst hcb
  obtain ⟨hx0, h17, hln⟩ := hCI.obj
  obtain ⟨la, ra, cs, C, Lz, GA, hB, hLo, hCs, hG, hGL, h60⟩ := id hCI
  show Sf k 0 0 h nx 0 [some (.ref x), some (.int y), some (.ref o), none] []
  refine r_aload_n g dL_carOf_0 rfl ?_
  refine r_iconst (v := 0) g dL_carOf_1 (by decide) ?_
  refine r_aload_n g dL_carOf_2 rfl ?_
  refine r_iload_n g dL_carOf_3 rfl ?_
  refine r_callVX g kL_46 (ok_c_carOf _ _ _ _ hl hA hB hG hGL y) hCI.obj.1 rfl rfl rfl hnx hR (by decide) (by decide) (by decide) rfl rfl dL_carOf_4 (fun v h1 nx1 hK hle => ?_) (fun E9 nx1 hK hle => ?_)
  · skip
    obtain ⟨hR0, rfl, rfl, rfl⟩ := hK
    refine r_i2l g dL_carOf_7 ?_
    refine r_last (j := 0) g ho (by omega) rfl (by decide) (by decide) dL_carOf_8 ?_
    obtain ⟨h_1, eh_1, hU_2⟩ : ∃ z, z = _ ∧ Up1 _ z o _ := ⟨_, rfl, Up1.of _ _ _⟩
    rw [← eh_1]
    refine r_goto 15 g dL_carOf_9 (by decide) ?_
    refine r_iconst (v := 0) g dL_carOf_15 (by decide) ?_
    exact r_iret g hr (by decide) (by decide) dL_carOf_16 ⟨congrArg (fun z => some (Value.int (nI z))) hR0.symm, hCI.ext (fun q hq => hU_2.2 q (by omega)) (Nat.le_refl _), fun q hq hq2 => (hU_2.2 q hq2), _, hU_2.1, fun _ => (if_pos rfl).trans (rfl)⟩
  · skip
    obtain ⟨hR1, rfl⟩ := hK
    refine r_catchI g htb rfl (fun q => ?_)
    refine r_astore_n g dL_carOf_12 rfl rfl rfl ?_
    refine r_iconst (v := 1) g dL_carOf_13 (by decide) ?_
    exact r_iret g hr (by decide) (by decide) dL_carOf_14 ⟨by rw [hR1]; rfl, by exact hCI.ext (fun _ _ => rfl) hle, fun _ _ _ => rfl, _, ho, fun z => absurd (hR1.symm.trans z) (by decide)⟩
set_option maxHeartbeats 4000000 in
set_option maxRecDepth 100000 in
theorem ok_l_turn (l : Launch) (G : Nat → ClassId) (D : va_G) (base : Nat) (hl : l.stackTraces = false) {h : Hp} {nx x lo o : Nat} {s : AS} {r : GR} {f9 : Nat → Int64} (hA : AI s) (hCI : CI h x lo nx s r) (hbx : base ≤ x) (ho : h o = some (eJ 1 f9)) (ho1 : x + 17 ≤ o) (ho2 : o < lo) (c : Int32) (y : Int32) : MetC l G D base mhL_turn 7 1 6 [.ref x, .int c, .int y, .ref o] h nx (KH h x lo o r ovI (sTurn s r c y).1 (sTurn s r c y).2 s) := by
  refine MetC_of (by decide +kernel) rfl ?_
  intro k g hr htb hR hcl hcg hcd hcb hnx
  subst hcl; subst hcg; subst hcd; subst hcb
  obtain ⟨hx0, h17, hln⟩ := hCI.obj
  obtain ⟨la, ra, cs, C, Lz, GA, hB, hLo, hCs, hG, hGL, h60⟩ := id hCI
  show Sf k 0 0 h nx 0 [some (.ref x), some (.int c), some (.int y), some (.ref o), none] []
  refine r_aload_n g dL_turn_0 rfl ?_
  refine r_iconst (v := 0) g dL_turn_1 (by decide) ?_
  refine r_aload_n g dL_turn_2 rfl ?_
  refine r_iload_n g dL_turn_3 rfl ?_
  refine r_iload_n g dL_turn_4 rfl ?_
  refine r_callVX g kL_49 (ok_c_turn _ _ _ _ hl hA hB hG hGL c y) hCI.obj.1 rfl rfl rfl hnx hR (by decide) (by decide) (by decide) rfl rfl dL_turn_5 (fun v h1 nx1 hK hle => ?_) (fun E9 nx1 hK hle => ?_)
  · skip
    obtain ⟨hR0, rfl, rfl, rfl⟩ := hK
    refine r_i2l g dL_turn_8 ?_
    refine r_last (j := 0) g ho (by omega) rfl (by decide) (by decide) dL_turn_9 ?_
    obtain ⟨h_1, eh_1, hU_2⟩ : ∃ z, z = _ ∧ Up1 _ z o _ := ⟨_, rfl, Up1.of _ _ _⟩
    rw [← eh_1]
    refine r_goto 17 g dL_turn_10 (by decide) ?_
    refine r_iconst (v := 0) g dL_turn_17 (by decide) ?_
    exact r_iret g hr (by decide) (by decide) dL_turn_18 ⟨congrArg (fun z => some (Value.int (nI z))) hR0.symm, hCI.ext (fun q hq => hU_2.2 q (by omega)) (Nat.le_refl _), fun q hq hq2 => (hU_2.2 q hq2), _, hU_2.1, fun _ => (if_pos rfl).trans (rfl)⟩
  · skip
    obtain ⟨hR1, rfl⟩ := hK
    refine r_catchI g htb rfl (fun q => ?_)
    refine r_astore g dL_turn_13 rfl rfl rfl ?_
    refine r_iconst (v := 1) g dL_turn_15 (by decide) ?_
    exact r_iret g hr (by decide) (by decide) dL_turn_16 ⟨by rw [hR1]; rfl, by exact hCI.ext (fun _ _ => rfl) hle, fun _ _ _ => rfl, _, ho, fun z => absurd (hR1.symm.trans z) (by decide)⟩
set_option maxHeartbeats 4000000 in
set_option maxRecDepth 100000 in
theorem ok_l_told (l : Launch) (G : Nat → ClassId) (D : va_G) (base : Nat) (hl : l.stackTraces = false) {h : Hp} {nx x lo o : Nat} {s : AS} {r : GR} {f9 : Nat → Int64} (hA : AI s) (hCI : CI h x lo nx s r) (hbx : base ≤ x) (ho : h o = some (eJ 1 f9)) (ho1 : x + 17 ≤ o) (ho2 : o < lo) (y : Int32) (w : Int32) : MetC l G D base mhL_told 7 1 6 [.ref x, .int y, .int w, .ref o] h nx (KH h x lo o r ovI (sTold s r y w).1 (sTold s r y w).2 s) := by
  refine MetC_of (by decide +kernel) rfl ?_
  intro k g hr htb hR hcl hcg hcd hcb hnx
  subst hcl; subst hcg; subst hcd; subst hcb
  obtain ⟨hx0, h17, hln⟩ := hCI.obj
  obtain ⟨la, ra, cs, C, Lz, GA, hB, hLo, hCs, hG, hGL, h60⟩ := id hCI
  show Sf k 0 0 h nx 0 [some (.ref x), some (.int y), some (.int w), some (.ref o), none] []
  refine r_aload_n g dL_told_0 rfl ?_
  refine r_iconst (v := 0) g dL_told_1 (by decide) ?_
  refine r_aload_n g dL_told_2 rfl ?_
  refine r_iload_n g dL_told_3 rfl ?_
  refine r_iload_n g dL_told_4 rfl ?_
  refine r_callVX g kL_52 (ok_c_told _ _ _ _ hl hA hB hG hGL y w) hCI.obj.1 rfl rfl rfl hnx hR (by decide) (by decide) (by decide) rfl rfl dL_told_5 (fun v h1 nx1 hK hle => ?_) (fun E9 nx1 hK hle => ?_)
  · skip
    obtain ⟨hR0, rfl, rfl, rfl⟩ := hK
    refine r_i2l g dL_told_8 ?_
    refine r_last (j := 0) g ho (by omega) rfl (by decide) (by decide) dL_told_9 ?_
    obtain ⟨h_1, eh_1, hU_2⟩ : ∃ z, z = _ ∧ Up1 _ z o _ := ⟨_, rfl, Up1.of _ _ _⟩
    rw [← eh_1]
    refine r_goto 17 g dL_told_10 (by decide) ?_
    refine r_iconst (v := 0) g dL_told_17 (by decide) ?_
    exact r_iret g hr (by decide) (by decide) dL_told_18 ⟨congrArg (fun z => some (Value.int (nI z))) hR0.symm, hCI.ext (fun q hq => hU_2.2 q (by omega)) (Nat.le_refl _), fun q hq hq2 => (hU_2.2 q hq2), _, hU_2.1, fun _ => (if_pos rfl).trans (rfl)⟩
  · skip
    obtain ⟨hR1, rfl⟩ := hK
    refine r_catchI g htb rfl (fun q => ?_)
    refine r_astore g dL_told_13 rfl rfl rfl ?_
    refine r_iconst (v := 1) g dL_told_15 (by decide) ?_
    exact r_iret g hr (by decide) (by decide) dL_told_16 ⟨by rw [hR1]; rfl, by exact hCI.ext (fun _ _ => rfl) hle, fun _ _ _ => rfl, _, ho, fun z => absurd (hR1.symm.trans z) (by decide)⟩
set_option maxHeartbeats 4000000 in
set_option maxRecDepth 100000 in
theorem ok_l_cars (l : Launch) (G : Nat → ClassId) (D : va_G) (base : Nat) (hl : l.stackTraces = false) {h : Hp} {nx x lo o : Nat} {s : AS} {r : GR} {f9 : Nat → Int64} (hA : AI s) (hCI : CI h x lo nx s r) (hbx : base ≤ x) (ho : h o = some (eJ 1 f9)) (ho1 : x + 17 ≤ o) (ho2 : o < lo) (n : Int32) : MetC l G D base mhL_cars 7 1 6 [.ref x, .int n, .ref o] h nx (KH h x lo o r ovI (sCars s n).1 (sCars s n).2 s) := by
  refine MetC_of (by decide +kernel) rfl ?_
  intro k g hr htb hR hcl hcg hcd hcb hnx
  subst hcl; subst hcg; subst hcd; subst hcb
  obtain ⟨hx0, h17, hln⟩ := hCI.obj
  obtain ⟨la, ra, cs, C, Lz, GA, hB, hLo, hCs, hG, hGL, h60⟩ := id hCI
  show Sf k 0 0 h nx 0 [some (.ref x), some (.int n), some (.ref o), none] []
  refine r_aload_n g dL_cars_0 rfl ?_
  refine r_iconst (v := 0) g dL_cars_1 (by decide) ?_
  refine r_aload_n g dL_cars_2 rfl ?_
  refine r_iload_n g dL_cars_3 rfl ?_
  refine r_callVX g kL_55 (ok_c_cars _ _ _ _ hl hA hB n) hCI.obj.1 rfl rfl rfl hnx hR (by decide) (by decide) (by decide) rfl rfl dL_cars_4 (fun v h1 nx1 hK hle => ?_) (fun E9 nx1 hK hle => ?_)
  · skip
    obtain ⟨hR0, rfl, rfl, rfl⟩ := hK
    refine r_i2l g dL_cars_7 ?_
    refine r_last (j := 0) g ho (by omega) rfl (by decide) (by decide) dL_cars_8 ?_
    obtain ⟨h_1, eh_1, hU_2⟩ : ∃ z, z = _ ∧ Up1 _ z o _ := ⟨_, rfl, Up1.of _ _ _⟩
    rw [← eh_1]
    refine r_goto 15 g dL_cars_9 (by decide) ?_
    refine r_iconst (v := 0) g dL_cars_15 (by decide) ?_
    exact r_iret g hr (by decide) (by decide) dL_cars_16 ⟨congrArg (fun z => some (Value.int (nI z))) hR0.symm, hCI.ext (fun q hq => hU_2.2 q (by omega)) (Nat.le_refl _), fun q hq hq2 => (hU_2.2 q hq2), _, hU_2.1, fun _ => (if_pos rfl).trans (rfl)⟩
  · skip
    obtain ⟨hR1, rfl⟩ := hK
    refine r_catchI g htb rfl (fun q => ?_)
    refine r_astore_n g dL_cars_12 rfl rfl rfl ?_
    refine r_iconst (v := 1) g dL_cars_13 (by decide) ?_
    exact r_iret g hr (by decide) (by decide) dL_cars_14 ⟨by rw [hR1]; rfl, by exact hCI.ext (fun _ _ => rfl) hle, fun _ _ _ => rfl, _, ho, fun z => absurd (hR1.symm.trans z) (by decide)⟩
set_option maxHeartbeats 4000000 in
set_option maxRecDepth 100000 in
theorem ok_l_weight (l : Launch) (G : Nat → ClassId) (D : va_G) (base : Nat) (hl : l.stackTraces = false) {h : Hp} {nx x lo o : Nat} {s : AS} {r : GR} {f9 : Nat → Int64} (hA : AI s) (hCI : CI h x lo nx s r) (hbx : base ≤ x) (ho : h o = some (eJ 1 f9)) (ho1 : x + 17 ≤ o) (ho2 : o < lo) (n : Int32) : MetC l G D base mhL_weight 7 1 6 [.ref x, .int n, .ref o] h nx (KH h x lo o r ovI (sWeight s n).1 (sWeight s n).2 s) := by
  refine MetC_of (by decide +kernel) rfl ?_
  intro k g hr htb hR hcl hcg hcd hcb hnx
  subst hcl; subst hcg; subst hcd; subst hcb
  obtain ⟨hx0, h17, hln⟩ := hCI.obj
  obtain ⟨la, ra, cs, C, Lz, GA, hB, hLo, hCs, hG, hGL, h60⟩ := id hCI
  show Sf k 0 0 h nx 0 [some (.ref x), some (.int n), some (.ref o), none] []
  refine r_aload_n g dL_weight_0 rfl ?_
  refine r_iconst (v := 0) g dL_weight_1 (by decide) ?_
  refine r_aload_n g dL_weight_2 rfl ?_
  refine r_iload_n g dL_weight_3 rfl ?_
  refine r_callVX g kL_58 (ok_c_weight _ _ _ _ hl hA hB n) hCI.obj.1 rfl rfl rfl hnx hR (by decide) (by decide) (by decide) rfl rfl dL_weight_4 (fun v h1 nx1 hK hle => ?_) (fun E9 nx1 hK hle => ?_)
  · skip
    obtain ⟨hR0, rfl, rfl, rfl⟩ := hK
    refine r_i2l g dL_weight_7 ?_
    refine r_last (j := 0) g ho (by omega) rfl (by decide) (by decide) dL_weight_8 ?_
    obtain ⟨h_1, eh_1, hU_2⟩ : ∃ z, z = _ ∧ Up1 _ z o _ := ⟨_, rfl, Up1.of _ _ _⟩
    rw [← eh_1]
    refine r_goto 15 g dL_weight_9 (by decide) ?_
    refine r_iconst (v := 0) g dL_weight_15 (by decide) ?_
    exact r_iret g hr (by decide) (by decide) dL_weight_16 ⟨congrArg (fun z => some (Value.int (nI z))) hR0.symm, hCI.ext (fun q hq => hU_2.2 q (by omega)) (Nat.le_refl _), fun q hq hq2 => (hU_2.2 q hq2), _, hU_2.1, fun _ => (if_pos rfl).trans (rfl)⟩
  · skip
    obtain ⟨hR1, rfl⟩ := hK
    refine r_catchI g htb rfl (fun q => ?_)
    refine r_astore_n g dL_weight_12 rfl rfl rfl ?_
    refine r_iconst (v := 1) g dL_weight_13 (by decide) ?_
    exact r_iret g hr (by decide) (by decide) dL_weight_14 ⟨by rw [hR1]; rfl, by exact hCI.ext (fun _ _ => rfl) hle, fun _ _ _ => rfl, _, ho, fun z => absurd (hR1.symm.trans z) (by decide)⟩
