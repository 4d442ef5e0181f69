/-! 36: the constructors of the class and of the reference -/
def flI (f : Int32) : Int32 := if (2 : Int32) < (if f < 60 then f else 60) then (if f < 60 then f else 60) else 2
def flo (f : Int32) : Nat := iN (flI f)
theorem flo_ok (f : Int32) : nI (flo f) = flI f ∧ 2 ≤ flo f ∧ flo f ≤ 60 := by
  have h2 : (2 : Int32).toInt = 2 := rfl
  have h60 : (60 : Int32).toInt = 60 := rfl
  have hr : 2 ≤ (flI f).toInt ∧ (flI f).toInt ≤ 60 := by
    unfold flI
    by_cases a : f < 60
    · rw [if_pos a]
      by_cases b : (2 : Int32) < f
      · rw [if_pos b]
        rw [Int32.lt_iff_toInt_lt] at a b
        omega
      · rw [if_neg b, h2]; omega
    · rw [if_neg a, if_pos (by decide), h60]; omega
  have h0 := nn_at (x := flI f) (Int32.le_iff_toInt_le.mpr (by rw [show (0 : Int32).toInt = 0 from rfl]; omega))
  have h1 : (flI f).toInt = (flo f : Int) := by
    have := congrArg Int32.toInt h0.1
    rw [nI_toInt h0.2] at this
    exact this
  exact ⟨h0.1.symm, by omega, by omega⟩
def s0F (f : Int32) : AS := (fun q => if q = 0 then flo f else 0, fun _ _ => 0, fun _ _ => 0)
def r0 : GR := (fun _ _ => 4, fun _ _ => 0, fun _ => 0)
theorem s0_AI (f : Int32) : AI (s0F f) := by
  have h := flo_ok f
  refine ⟨⟨h.2.1, h.2.2⟩, Nat.zero_le _, Nat.zero_le _, Nat.zero_le _, fun c hc => absurd hc (Nat.not_lt_zero _), fun q hq => absurd hq (Nat.not_lt_zero _), Nat.zero_le _, fun a b ha => absurd ha (Nat.not_lt_zero _)⟩
def clE (i : Nat) : PE := if i = 1 then eQ 0 4 (fun _ => none) else eQ 1 6 (fun _ => none)
def KCi (h : Hp) (x : Nat) (f : Int32) : Option Value → Hp → Nat → Prop := fun v h' nx' => v = none ∧ nx' = x + 17 ∧ (∀ lo nx2, x + 17 ≤ lo → lo ≤ nx2 → CI h' x lo nx2 (s0F f) r0) ∧ ∀ q, q < x → h' q = h q
theorem s0_CI {h : Hp} {x : Nat} {f : Int32} {GA : Nat → Nat → Int32} (h1 : h x = some (eO 4 [.int (flI f), .ref (x + 1), .int 0, .ref (x + 2), .int 0, .int 0, .int 0, .ref (x + 3)])) (h2 : h (x + 1) = some (eQ 0 4 (fun _ => none))) (h3 : h (x + 2) = some (eQ 1 6 (fun _ => none))) (hG : GO h (x + 3) 0 0 GA) (h60 : GA 6 0 = 0) (h11 : ∀ j, j < 24 → GA 11 j = -1) {lo nx2 : Nat} (hlo : x + 17 ≤ lo) (hnx : lo ≤ nx2) : CI h x lo nx2 (s0F f) r0 := by
  refine ⟨fun _ => 0, fun _ => 0, fun _ => 0, 0, 0, GA, ⟨?_, ?_, ?_, fun c hc => absurd hc (Nat.not_lt_zero _), fun i hi => absurd hi (Nat.not_lt_zero _)⟩, ⟨hlo, hnx, fun c hc => absurd hc (Nat.not_lt_zero _), fun c c' _ hc => absurd hc (Nat.not_lt_zero _), fun i hi => absurd hi (Nat.not_lt_zero _), fun i j _ hj => absurd hj (Nat.not_lt_zero _), fun c i hc => absurd hc (Nat.not_lt_zero _)⟩, fun c hc => absurd hc (Nat.not_lt_zero _), hG, ⟨0, Nat.zero_le _, rfl, fun i j hi => absurd hi (Nat.not_lt_zero _), fun q hq => Or.inl ⟨rfl, fun i hi => absurd hi (Nat.not_lt_zero _)⟩, fun c j hc hj => ?_, fun c hc => Nat.zero_le _⟩, h60⟩
  · rw [h1, ← (flo_ok f).1]; rfl
  · rw [h2]
    congr 2
  · rw [h3]
    congr 2
  · rw [h11 _ (by omega)]; rfl

set_option maxHeartbeats 4000000 in
set_option maxRecDepth 100000 in
theorem ok_i_class (l : Launch) (G : Nat → ClassId) (D : va_G) (base : Nat) {h : Hp} {x : Nat} (hx0 : h x = some (eO 4 dF4)) (hb : base ≤ x) (f : Int32) : MetP l G D base miX4_init 2 16 177 [.ref x, .int f] h (x + 1) (KCi h x f) := by
  refine MetP_of (by decide +kernel) rfl ?_
  intro k g hr hR hcl hcg hcd hcb hcn hnx
  subst hcl; subst hcg; subst hcd; subst hcb
  have hP : PG 4 clE h h x 1 dF4 := ⟨hx0, fun i a b => by omega, fun _ _ => rfl⟩
  show Sf k 0 0 h (x + 1) 0 [some (.ref x), some (.int f)] []
  refine r_aload_n g dX4_init_0 rfl ?_
  refine r_objInit g wolX4 woi woc hR (by decide) rfl dX4_init_1 ?_
  refine r_aload_n g dX4_init_4 rfl ?_
  refine r_iconst (v := 4) g dX4_init_5 (by decide) ?_
  refine r_mkQ (o := x) (N := 4) (t := 0) g nX4_9.1 (Or.inl ⟨rfl, rfl⟩) hP (by decide) rfl rfl (by decide) (by have := hR.2.2.1; have : 16 ≤ (cRoom k).cells := this; omega) (by have := hR.2.2.2; have : 177 ≤ (cRoom k).slots := this; omega) fX4_11 rfl hcn hb (Nat.le_of_ble_eq_true rfl) (fs' := [.int 0, .ref (x + 1), .int 0, .null, .int 0, .int 0, .int 0, .null]) rfl dX4_init_6 dX4_init_9 ?_
  intro h_1 hP
  refine r_aload_n g dX4_init_12 rfl ?_
  refine r_bipush (v := 6) g dX4_init_13 (by decide) ?_
  refine r_mkQ (o := x) (N := 6) (t := 1) g nX4_15.1 (Or.inr ⟨rfl, rfl⟩) hP (by decide) rfl rfl (by decide) (by have := hR.2.2.1; have : 16 ≤ (cRoom k).cells := this; omega) (by have := hR.2.2.2; have : 177 ≤ (cRoom k).slots := this; omega) fX4_17 rfl hcn hb (Nat.le_of_ble_eq_true rfl) (fs' := [.int 0, .ref (x + 1), .int 0, .ref (x + 2), .int 0, .int 0, .int 0, .null]) rfl dX4_init_15 dX4_init_18 ?_
  intro h_2 hP
  refine r_aload_n g dX4_init_21 rfl ?_
  refine r_new1 (ci := 0) g nX4_21 rfl tyX0 tyX0_ok dF0_ok (by have := hR.2.2.1; have : 16 ≤ (cRoom k).cells := this; omega) (by have := hR.2.2.2; have : 177 ≤ (cRoom k).slots := this; omega) dX4_init_22 ?_
  intro hf h_3 hU3
  refine r_dup g dX4_init_25 rfl ?_
  refine r_callI g kX4_23 (ok_i_giving _ _ _ _ (gv := x + 3) hU3.1 (by omega)) rfl rfl rfl (by omega) hR (by decide) (by decide) (by decide) rfl rfl dX4_init_26 ?_
  rintro v9 h9 nx9 ⟨rfl, rfl, ⟨GA, hG, h60, h11⟩, hq9⟩ -
  have hx9 := (hq9 x (by omega)).trans ((hU3.2 x (by omega)).trans hP.1)
  refine r_putF1 (fs' := [.int 0, .ref (x + 1), .int 0, .ref (x + 2), .int 0, .int 0, .int 0, .ref (x + 3)]) g fX4_24 rfl hcn hx9 hb (Nat.le_of_ble_eq_true rfl) rfl rfl rfl dX4_init_29 ?_
  intro h_1 hU_2
  refine r_aload_n g dX4_init_32 rfl ?_
  refine r_iconst (v := 2) g dX4_init_33 (by decide) ?_
  refine r_bipush (v := 60) g dX4_init_34 (by decide) ?_
  refine r_iload_n g dX4_init_36 rfl ?_
  refine r_min g kX4_28 hR (by decide) (by decide) (by decide) rfl dX4_init_37 ?_
  refine r_max g kX4_34 hR (by decide) (by decide) (by decide) rfl dX4_init_40 ?_
  refine r_putF1 (fs' := [.int (if 2 < (if f < 60 then f else 60) then (if f < 60 then f else 60) else 2), .ref (x + 1), .int 0, .ref (x + 2), .int 0, .int 0, .int 0, .ref (x + 3)]) g fX4_37 rfl hcn hU_2.1 hb (Nat.le_of_ble_eq_true rfl) rfl rfl rfl dX4_init_43 ?_
  intro h_3 hU_4
  have hU_4 := hU_2.tr hU_4
  have hb1 := (hq9 (x + 1) (by omega)).trans ((hU3.2 (x + 1) (by omega)).trans (hP.2.1 1 (by decide) (by decide)))
  have hb2 := (hq9 (x + 2) (by omega)).trans ((hU3.2 (x + 2) (by omega)).trans (hP.2.1 2 (by decide) (by decide)))
  exact r_vret g hr (by decide) (by decide) dX4_init_46 ⟨rfl, rfl, fun lo nx2 k1 k2 => s0_CI hU_4.1 ((hU_4.2 _ (by omega)).trans hb1) ((hU_4.2 _ (by omega)).trans hb2) (hG.fr hU_4.fr (by omega)) h60 h11 k1 k2, fun q hq => (hU_4.2 q (by omega)).trans ((hq9 q (by omega)).trans ((hU3.2 q (by omega)).trans (hP.2.2 q hq)))⟩
def moE (i : Nat) : PE := if i = 21 then eJ 256 (fun _ => 0) else if i = 6 ∨ i = 10 ∨ i = 11 then eZ (if i = 6 then 4 else 400) (fun _ => 0) else eI (if i < 6 then 4 else if i < 17 then 400 else if i = 17 then 24 else if i = 18 then 4 else if i = 22 then 1536 else 6) (fun _ => 0)
theorem moE_ok : ∀ kf, marr kf = true → moE (moff kf) = ment kf (fun _ _ => 0) (fun _ => 0) := fun kf hk => by
  have h9 := of_decide_eq_true hk
  match kf, h9 with
  | 4, _ | 5, _ | 6, _ | 7, _ | 8, _ | 9, _ | 11, _ | 12, _ | 13, _ | 14, _ | 15, _ | 16, _ | 18, _ | 19, _ | 20, _ | 21, _ | 22, _ | 23, _ | 25, _ | 26, _ | 27, _ | 28, _ | 29, _ | 30, _ => rfl
  | 0, h | 1, h | 2, h | 3, h | 10, h | 17, h | 24, h => omega
  | n + 31, h => omega
/-- what the reference's constructor sets -/
def KMi (h : Hp) (m : Nat) (f : Int32) : Option Value → Hp → Nat → Prop := fun v h' nx' => v = none ∧ nx' = m + 25 ∧ (∃ F A B, MO h' m F A B ∧ MI F A (s0F f) ∧ MG A r0) ∧ ∀ q, q < m → h' q = h q
theorem flM (f : Int32) : (2 ≤ f → f ≤ 60 → flI f = f) ∧ (2 ≤ f → ¬ f ≤ 60 → flI f = 60) ∧ (¬ 2 ≤ f → flI f = 2) := by
  have h2 : (2 : Int32).toInt = 2 := rfl
  have h60 : (60 : Int32).toInt = 60 := rfl
  unfold flI
  refine ⟨fun a b => ?_, fun a b => ?_, fun a => ?_⟩
  · by_cases c : f < 60
    · rw [if_pos c]
      by_cases d : (2 : Int32) < f
      · rw [if_pos d]
      · rw [if_neg d]
        apply Int32.toInt_inj.mp
        rw [Int32.le_iff_toInt_le] at a
        rw [Int32.lt_iff_toInt_lt] at d
        omega
    · rw [if_neg c, if_pos (by decide)]
      apply Int32.toInt_inj.mp
      rw [Int32.le_iff_toInt_le] at b
      rw [Int32.lt_iff_toInt_lt] at c
      omega
  · have c : ¬ f < 60 := fun c => b (by rw [Int32.le_iff_toInt_le]; rw [Int32.lt_iff_toInt_lt] at c; omega)
    rw [if_neg c, if_pos (by decide)]
  · have c : f < 60 := by rw [Int32.lt_iff_toInt_lt]; rw [Int32.le_iff_toInt_le] at a; omega
    have d : ¬ (2 : Int32) < f := fun d => a (by rw [Int32.le_iff_toInt_le]; rw [Int32.lt_iff_toInt_lt] at d; omega)
    rw [if_pos c, if_neg d]

set_option maxHeartbeats 4000000 in
set_option maxRecDepth 100000 in
theorem ok_i_model (l : Launch) (G : Nat → ClassId) (D : va_G) (base : Nat) {h : Hp} {m : Nat} (hm0 : h m = some (eO 5 dF5)) (hb : base ≤ m) (f : Int32) : MetP l G D base miX5_init 1 24 5868 [.ref m, .int f] h (m + 1) (KMi h m f) := by
  refine MetP_of (by decide +kernel) rfl ?_
  intro k g hr hR hcl hcg hcd hcb hcn hnx
  subst hcl; subst hcg; subst hcd; subst hcb
  have hbm := hb
  have hP : PG 5 moE h h m 1 dF5 := ⟨hm0, fun i a b => by omega, fun _ _ => rfl⟩
  show Sf k 0 0 h (m + 1) 0 [some (.ref m), some (.int f), none] []
  refine r_aload_n g dX5_init_0 rfl ?_
  refine r_objInit g wolX5 woi woc hR (by decide) rfl dX5_init_1 ?_
  refine r_aload_n g dX5_init_4 rfl ?_
  refine r_iconst (v := 4) g dX5_init_5 (by decide) ?_
  refine r_mkI (o := m) (n := 1) (N := 4) (fs' := [.int 0, .int 0, .int 0, .int 0, .ref (m + 1), .null, .null, .null, .null, .null, .int 0, .null, .null, .null, .null, .null, .null, .int 0, .null, .null, .null, .null, .null, .null, .int 0, .null, .null, .null, .null, .null, .null]) g hP (by decide) rfl rfl (by decide) (by have := hR.2.2.1; have : 24 ≤ (cRoom k).cells := this; omega) (by have := hR.2.2.2; have : 5868 ≤ (cRoom k).slots := this; omega) fX5_7 rfl hcn hb (Nat.le_of_ble_eq_true rfl) rfl dX5_init_6 dX5_init_8 ?_
  intro h_1 hP
  refine r_aload_n g dX5_init_11 rfl ?_
  refine r_iconst (v := 4) g dX5_init_12 (by decide) ?_
  refine r_mkI (o := m) (n := 2) (N := 4) (fs' := [.int 0, .int 0, .int 0, .int 0, .ref (m + 1), .ref (m + 2), .null, .null, .null, .null, .int 0, .null, .null, .null, .null, .null, .null, .int 0, .null, .null, .null, .null, .null, .null, .int 0, .null, .null, .null, .null, .null, .null]) g hP (by decide) rfl rfl (by decide) (by have := hR.2.2.1; have : 24 ≤ (cRoom k).cells := this; omega) (by have := hR.2.2.2; have : 5868 ≤ (cRoom k).slots := this; omega) fX5_13 rfl hcn hb (Nat.le_of_ble_eq_true rfl) rfl dX5_init_13 dX5_init_15 ?_
  intro h_2 hP
  refine r_aload_n g dX5_init_18 rfl ?_
  refine r_iconst (v := 4) g dX5_init_19 (by decide) ?_
  refine r_mkI (o := m) (n := 3) (N := 4) (fs' := [.int 0, .int 0, .int 0, .int 0, .ref (m + 1), .ref (m + 2), .ref (m + 3), .null, .null, .null, .int 0, .null, .null, .null, .null, .null, .null, .int 0, .null, .null, .null, .null, .null, .null, .int 0, .null, .null, .null, .null, .null, .null]) g hP (by decide) rfl rfl (by decide) (by have := hR.2.2.1; have : 24 ≤ (cRoom k).cells := this; omega) (by have := hR.2.2.2; have : 5868 ≤ (cRoom k).slots := this; omega) fX5_16 rfl hcn hb (Nat.le_of_ble_eq_true rfl) rfl dX5_init_20 dX5_init_22 ?_
  intro h_3 hP
  refine r_aload_n g dX5_init_25 rfl ?_
  refine r_iconst (v := 4) g dX5_init_26 (by decide) ?_
  refine r_mkI (o := m) (n := 4) (N := 4) (fs' := [.int 0, .int 0, .int 0, .int 0, .ref (m + 1), .ref (m + 2), .ref (m + 3), .ref (m + 4), .null, .null, .int 0, .null, .null, .null, .null, .null, .null, .int 0, .null, .null, .null, .null, .null, .null, .int 0, .null, .null, .null, .null, .null, .null]) g hP (by decide) rfl rfl (by decide) (by have := hR.2.2.1; have : 24 ≤ (cRoom k).cells := this; omega) (by have := hR.2.2.2; have : 5868 ≤ (cRoom k).slots := this; omega) fX5_19 rfl hcn hb (Nat.le_of_ble_eq_true rfl) rfl dX5_init_27 dX5_init_29 ?_
  intro h_4 hP
  refine r_aload_n g dX5_init_32 rfl ?_
  refine r_iconst (v := 4) g dX5_init_33 (by decide) ?_
  refine r_mkI (o := m) (n := 5) (N := 4) (fs' := [.int 0, .int 0, .int 0, .int 0, .ref (m + 1), .ref (m + 2), .ref (m + 3), .ref (m + 4), .ref (m + 5), .null, .int 0, .null, .null, .null, .null, .null, .null, .int 0, .null, .null, .null, .null, .null, .null, .int 0, .null, .null, .null, .null, .null, .null]) g hP (by decide) rfl rfl (by decide) (by have := hR.2.2.1; have : 24 ≤ (cRoom k).cells := this; omega) (by have := hR.2.2.2; have : 5868 ≤ (cRoom k).slots := this; omega) fX5_22 rfl hcn hb (Nat.le_of_ble_eq_true rfl) rfl dX5_init_34 dX5_init_36 ?_
  intro h_5 hP
  refine r_aload_n g dX5_init_39 rfl ?_
  refine r_iconst (v := 4) g dX5_init_40 (by decide) ?_
  refine r_mkZ (o := m) (n := 6) (N := 4) (fs' := [.int 0, .int 0, .int 0, .int 0, .ref (m + 1), .ref (m + 2), .ref (m + 3), .ref (m + 4), .ref (m + 5), .ref (m + 6), .int 0, .null, .null, .null, .null, .null, .null, .int 0, .null, .null, .null, .null, .null, .null, .int 0, .null, .null, .null, .null, .null, .null]) g hP (by decide) rfl rfl (by decide) (by have := hR.2.2.1; have : 24 ≤ (cRoom k).cells := this; omega) (by have := hR.2.2.2; have : 5868 ≤ (cRoom k).slots := this; omega) fX5_25 rfl hcn hb (Nat.le_of_ble_eq_true rfl) rfl dX5_init_41 dX5_init_43 ?_
  intro h_6 hP
  refine r_aload_n g dX5_init_46 rfl ?_
  refine r_sipush (v := 400) g dX5_init_47 (by decide) ?_
  refine r_mkI (o := m) (n := 7) (N := 400) (fs' := [.int 0, .int 0, .int 0, .int 0, .ref (m + 1), .ref (m + 2), .ref (m + 3), .ref (m + 4), .ref (m + 5), .ref (m + 6), .int 0, .ref (m + 7), .null, .null, .null, .null, .null, .int 0, .null, .null, .null, .null, .null, .null, .int 0, .null, .null, .null, .null, .null, .null]) g hP (by decide) rfl rfl (by decide) (by have := hR.2.2.1; have : 24 ≤ (cRoom k).cells := this; omega) (by have := hR.2.2.2; have : 5868 ≤ (cRoom k).slots := this; omega) fX5_29 rfl hcn hb (Nat.le_of_ble_eq_true rfl) rfl dX5_init_50 dX5_init_52 ?_
  intro h_7 hP
  refine r_aload_n g dX5_init_55 rfl ?_
  refine r_sipush (v := 400) g dX5_init_56 (by decide) ?_
  refine r_mkI (o := m) (n := 8) (N := 400) (fs' := [.int 0, .int 0, .int 0, .int 0, .ref (m + 1), .ref (m + 2), .ref (m + 3), .ref (m + 4), .ref (m + 5), .ref (m + 6), .int 0, .ref (m + 7), .ref (m + 8), .null, .null, .null, .null, .int 0, .null, .null, .null, .null, .null, .null, .int 0, .null, .null, .null, .null, .null, .null]) g hP (by decide) rfl rfl (by decide) (by have := hR.2.2.1; have : 24 ≤ (cRoom k).cells := this; omega) (by have := hR.2.2.2; have : 5868 ≤ (cRoom k).slots := this; omega) fX5_32 rfl hcn hb (Nat.le_of_ble_eq_true rfl) rfl dX5_init_59 dX5_init_61 ?_
  intro h_8 hP
  refine r_aload_n g dX5_init_64 rfl ?_
  refine r_sipush (v := 400) g dX5_init_65 (by decide) ?_
  refine r_mkI (o := m) (n := 9) (N := 400) (fs' := [.int 0, .int 0, .int 0, .int 0, .ref (m + 1), .ref (m + 2), .ref (m + 3), .ref (m + 4), .ref (m + 5), .ref (m + 6), .int 0, .ref (m + 7), .ref (m + 8), .ref (m + 9), .null, .null, .null, .int 0, .null, .null, .null, .null, .null, .null, .int 0, .null, .null, .null, .null, .null, .null]) g hP (by decide) rfl rfl (by decide) (by have := hR.2.2.1; have : 24 ≤ (cRoom k).cells := this; omega) (by have := hR.2.2.2; have : 5868 ≤ (cRoom k).slots := this; omega) fX5_35 rfl hcn hb (Nat.le_of_ble_eq_true rfl) rfl dX5_init_68 dX5_init_70 ?_
  intro h_9 hP
  refine r_aload_n g dX5_init_73 rfl ?_
  refine r_sipush (v := 400) g dX5_init_74 (by decide) ?_
  refine r_mkZ (o := m) (n := 10) (N := 400) (fs' := [.int 0, .int 0, .int 0, .int 0, .ref (m + 1), .ref (m + 2), .ref (m + 3), .ref (m + 4), .ref (m + 5), .ref (m + 6), .int 0, .ref (m + 7), .ref (m + 8), .ref (m + 9), .ref (m + 10), .null, .null, .int 0, .null, .null, .null, .null, .null, .null, .int 0, .null, .null, .null, .null, .null, .null]) g hP (by decide) rfl rfl (by decide) (by have := hR.2.2.1; have : 24 ≤ (cRoom k).cells := this; omega) (by have := hR.2.2.2; have : 5868 ≤ (cRoom k).slots := this; omega) fX5_38 rfl hcn hb (Nat.le_of_ble_eq_true rfl) rfl dX5_init_77 dX5_init_79 ?_
  intro h_10 hP
  refine r_aload_n g dX5_init_82 rfl ?_
  refine r_sipush (v := 400) g dX5_init_83 (by decide) ?_
  refine r_mkZ (o := m) (n := 11) (N := 400) (fs' := [.int 0, .int 0, .int 0, .int 0, .ref (m + 1), .ref (m + 2), .ref (m + 3), .ref (m + 4), .ref (m + 5), .ref (m + 6), .int 0, .ref (m + 7), .ref (m + 8), .ref (m + 9), .ref (m + 10), .ref (m + 11), .null, .int 0, .null, .null, .null, .null, .null, .null, .int 0, .null, .null, .null, .null, .null, .null]) g hP (by decide) rfl rfl (by decide) (by have := hR.2.2.1; have : 24 ≤ (cRoom k).cells := this; omega) (by have := hR.2.2.2; have : 5868 ≤ (cRoom k).slots := this; omega) fX5_41 rfl hcn hb (Nat.le_of_ble_eq_true rfl) rfl dX5_init_86 dX5_init_88 ?_
  intro h_11 hP
  refine r_aload_n g dX5_init_91 rfl ?_
  refine r_sipush (v := 400) g dX5_init_92 (by decide) ?_
  refine r_mkI (o := m) (n := 12) (N := 400) (fs' := [.int 0, .int 0, .int 0, .int 0, .ref (m + 1), .ref (m + 2), .ref (m + 3), .ref (m + 4), .ref (m + 5), .ref (m + 6), .int 0, .ref (m + 7), .ref (m + 8), .ref (m + 9), .ref (m + 10), .ref (m + 11), .ref (m + 12), .int 0, .null, .null, .null, .null, .null, .null, .int 0, .null, .null, .null, .null, .null, .null]) g hP (by decide) rfl rfl (by decide) (by have := hR.2.2.1; have : 24 ≤ (cRoom k).cells := this; omega) (by have := hR.2.2.2; have : 5868 ≤ (cRoom k).slots := this; omega) fX5_44 rfl hcn hb (Nat.le_of_ble_eq_true rfl) rfl dX5_init_95 dX5_init_97 ?_
  intro h_12 hP
  refine r_aload_n g dX5_init_100 rfl ?_
  refine r_sipush (v := 400) g dX5_init_101 (by decide) ?_
  refine r_mkI (o := m) (n := 13) (N := 400) (fs' := [.int 0, .int 0, .int 0, .int 0, .ref (m + 1), .ref (m + 2), .ref (m + 3), .ref (m + 4), .ref (m + 5), .ref (m + 6), .int 0, .ref (m + 7), .ref (m + 8), .ref (m + 9), .ref (m + 10), .ref (m + 11), .ref (m + 12), .int 0, .ref (m + 13), .null, .null, .null, .null, .null, .int 0, .null, .null, .null, .null, .null, .null]) g hP (by decide) rfl rfl (by decide) (by have := hR.2.2.1; have : 24 ≤ (cRoom k).cells := this; omega) (by have := hR.2.2.2; have : 5868 ≤ (cRoom k).slots := this; omega) fX5_47 rfl hcn hb (Nat.le_of_ble_eq_true rfl) rfl dX5_init_104 dX5_init_106 ?_
  intro h_13 hP
  refine r_aload_n g dX5_init_109 rfl ?_
  refine r_sipush (v := 400) g dX5_init_110 (by decide) ?_
  refine r_mkI (o := m) (n := 14) (N := 400) (fs' := [.int 0, .int 0, .int 0, .int 0, .ref (m + 1), .ref (m + 2), .ref (m + 3), .ref (m + 4), .ref (m + 5), .ref (m + 6), .int 0, .ref (m + 7), .ref (m + 8), .ref (m + 9), .ref (m + 10), .ref (m + 11), .ref (m + 12), .int 0, .ref (m + 13), .ref (m + 14), .null, .null, .null, .null, .int 0, .null, .null, .null, .null, .null, .null]) g hP (by decide) rfl rfl (by decide) (by have := hR.2.2.1; have : 24 ≤ (cRoom k).cells := this; omega) (by have := hR.2.2.2; have : 5868 ≤ (cRoom k).slots := this; omega) fX5_50 rfl hcn hb (Nat.le_of_ble_eq_true rfl) rfl dX5_init_113 dX5_init_115 ?_
  intro h_14 hP
  refine r_aload_n g dX5_init_118 rfl ?_
  refine r_sipush (v := 400) g dX5_init_119 (by decide) ?_
  refine r_mkI (o := m) (n := 15) (N := 400) (fs' := [.int 0, .int 0, .int 0, .int 0, .ref (m + 1), .ref (m + 2), .ref (m + 3), .ref (m + 4), .ref (m + 5), .ref (m + 6), .int 0, .ref (m + 7), .ref (m + 8), .ref (m + 9), .ref (m + 10), .ref (m + 11), .ref (m + 12), .int 0, .ref (m + 13), .ref (m + 14), .ref (m + 15), .null, .null, .null, .int 0, .null, .null, .null, .null, .null, .null]) g hP (by decide) rfl rfl (by decide) (by have := hR.2.2.1; have : 24 ≤ (cRoom k).cells := this; omega) (by have := hR.2.2.2; have : 5868 ≤ (cRoom k).slots := this; omega) fX5_53 rfl hcn hb (Nat.le_of_ble_eq_true rfl) rfl dX5_init_122 dX5_init_124 ?_
  intro h_15 hP
  refine r_aload_n g dX5_init_127 rfl ?_
  refine r_sipush (v := 400) g dX5_init_128 (by decide) ?_
  refine r_mkI (o := m) (n := 16) (N := 400) (fs' := [.int 0, .int 0, .int 0, .int 0, .ref (m + 1), .ref (m + 2), .ref (m + 3), .ref (m + 4), .ref (m + 5), .ref (m + 6), .int 0, .ref (m + 7), .ref (m + 8), .ref (m + 9), .ref (m + 10), .ref (m + 11), .ref (m + 12), .int 0, .ref (m + 13), .ref (m + 14), .ref (m + 15), .ref (m + 16), .null, .null, .int 0, .null, .null, .null, .null, .null, .null]) g hP (by decide) rfl rfl (by decide) (by have := hR.2.2.1; have : 24 ≤ (cRoom k).cells := this; omega) (by have := hR.2.2.2; have : 5868 ≤ (cRoom k).slots := this; omega) fX5_56 rfl hcn hb (Nat.le_of_ble_eq_true rfl) rfl dX5_init_131 dX5_init_133 ?_
  intro h_16 hP
  refine r_aload_n g dX5_init_136 rfl ?_
  refine r_bipush (v := 24) g dX5_init_137 (by decide) ?_
  refine r_mkI (o := m) (n := 17) (N := 24) (fs' := [.int 0, .int 0, .int 0, .int 0, .ref (m + 1), .ref (m + 2), .ref (m + 3), .ref (m + 4), .ref (m + 5), .ref (m + 6), .int 0, .ref (m + 7), .ref (m + 8), .ref (m + 9), .ref (m + 10), .ref (m + 11), .ref (m + 12), .int 0, .ref (m + 13), .ref (m + 14), .ref (m + 15), .ref (m + 16), .ref (m + 17), .null, .int 0, .null, .null, .null, .null, .null, .null]) g hP (by decide) rfl rfl (by decide) (by have := hR.2.2.1; have : 24 ≤ (cRoom k).cells := this; omega) (by have := hR.2.2.2; have : 5868 ≤ (cRoom k).slots := this; omega) fX5_59 rfl hcn hb (Nat.le_of_ble_eq_true rfl) rfl dX5_init_139 dX5_init_141 ?_
  intro h_17 hP
  refine r_aload_n g dX5_init_144 rfl ?_
  refine r_iconst (v := 4) g dX5_init_145 (by decide) ?_
  refine r_mkI (o := m) (n := 18) (N := 4) (fs' := [.int 0, .int 0, .int 0, .int 0, .ref (m + 1), .ref (m + 2), .ref (m + 3), .ref (m + 4), .ref (m + 5), .ref (m + 6), .int 0, .ref (m + 7), .ref (m + 8), .ref (m + 9), .ref (m + 10), .ref (m + 11), .ref (m + 12), .int 0, .ref (m + 13), .ref (m + 14), .ref (m + 15), .ref (m + 16), .ref (m + 17), .ref (m + 18), .int 0, .null, .null, .null, .null, .null, .null]) g hP (by decide) rfl rfl (by decide) (by have := hR.2.2.1; have : 24 ≤ (cRoom k).cells := this; omega) (by have := hR.2.2.2; have : 5868 ≤ (cRoom k).slots := this; omega) fX5_62 rfl hcn hb (Nat.le_of_ble_eq_true rfl) rfl dX5_init_146 dX5_init_148 ?_
  intro h_18 hP
  refine r_aload_n g dX5_init_151 rfl ?_
  refine r_bipush (v := 6) g dX5_init_152 (by decide) ?_
  refine r_mkI (o := m) (n := 19) (N := 6) (fs' := [.int 0, .int 0, .int 0, .int 0, .ref (m + 1), .ref (m + 2), .ref (m + 3), .ref (m + 4), .ref (m + 5), .ref (m + 6), .int 0, .ref (m + 7), .ref (m + 8), .ref (m + 9), .ref (m + 10), .ref (m + 11), .ref (m + 12), .int 0, .ref (m + 13), .ref (m + 14), .ref (m + 15), .ref (m + 16), .ref (m + 17), .ref (m + 18), .int 0, .ref (m + 19), .null, .null, .null, .null, .null]) g hP (by decide) rfl rfl (by decide) (by have := hR.2.2.1; have : 24 ≤ (cRoom k).cells := this; omega) (by have := hR.2.2.2; have : 5868 ≤ (cRoom k).slots := this; omega) fX5_65 rfl hcn hb (Nat.le_of_ble_eq_true rfl) rfl dX5_init_154 dX5_init_156 ?_
  intro h_19 hP
  refine r_aload_n g dX5_init_159 rfl ?_
  refine r_bipush (v := 6) g dX5_init_160 (by decide) ?_
  refine r_mkI (o := m) (n := 20) (N := 6) (fs' := [.int 0, .int 0, .int 0, .int 0, .ref (m + 1), .ref (m + 2), .ref (m + 3), .ref (m + 4), .ref (m + 5), .ref (m + 6), .int 0, .ref (m + 7), .ref (m + 8), .ref (m + 9), .ref (m + 10), .ref (m + 11), .ref (m + 12), .int 0, .ref (m + 13), .ref (m + 14), .ref (m + 15), .ref (m + 16), .ref (m + 17), .ref (m + 18), .int 0, .ref (m + 19), .ref (m + 20), .null, .null, .null, .null]) g hP (by decide) rfl rfl (by decide) (by have := hR.2.2.1; have : 24 ≤ (cRoom k).cells := this; omega) (by have := hR.2.2.2; have : 5868 ≤ (cRoom k).slots := this; omega) fX5_68 rfl hcn hb (Nat.le_of_ble_eq_true rfl) rfl dX5_init_162 dX5_init_164 ?_
  intro h_20 hP
  refine r_aload_n g dX5_init_167 rfl ?_
  refine r_sipush (v := 256) g dX5_init_168 (by decide) ?_
  refine r_mkJ (o := m) (n := 21) (N := 256) (fs' := [.int 0, .int 0, .int 0, .int 0, .ref (m + 1), .ref (m + 2), .ref (m + 3), .ref (m + 4), .ref (m + 5), .ref (m + 6), .int 0, .ref (m + 7), .ref (m + 8), .ref (m + 9), .ref (m + 10), .ref (m + 11), .ref (m + 12), .int 0, .ref (m + 13), .ref (m + 14), .ref (m + 15), .ref (m + 16), .ref (m + 17), .ref (m + 18), .int 0, .ref (m + 19), .ref (m + 20), .ref (m + 21), .null, .null, .null]) g hP (by decide) rfl rfl (by decide) (by have := hR.2.2.1; have : 24 ≤ (cRoom k).cells := this; omega) (by have := hR.2.2.2; have : 5868 ≤ (cRoom k).slots := this; omega) fX5_71 rfl hcn hb (Nat.le_of_ble_eq_true rfl) rfl dX5_init_171 dX5_init_173 ?_
  intro h_21 hP
  refine r_aload_n g dX5_init_176 rfl ?_
  refine r_sipush (v := 1536) g dX5_init_177 (by decide) ?_
  refine r_mkI (o := m) (n := 22) (N := 1536) (fs' := [.int 0, .int 0, .int 0, .int 0, .ref (m + 1), .ref (m + 2), .ref (m + 3), .ref (m + 4), .ref (m + 5), .ref (m + 6), .int 0, .ref (m + 7), .ref (m + 8), .ref (m + 9), .ref (m + 10), .ref (m + 11), .ref (m + 12), .int 0, .ref (m + 13), .ref (m + 14), .ref (m + 15), .ref (m + 16), .ref (m + 17), .ref (m + 18), .int 0, .ref (m + 19), .ref (m + 20), .ref (m + 21), .ref (m + 22), .null, .null]) g hP (by decide) rfl rfl (by decide) (by have := hR.2.2.1; have : 24 ≤ (cRoom k).cells := this; omega) (by have := hR.2.2.2; have : 5868 ≤ (cRoom k).slots := this; omega) fX5_75 rfl hcn hb (Nat.le_of_ble_eq_true rfl) rfl dX5_init_180 dX5_init_182 ?_
  intro h_22 hP
  refine r_aload_n g dX5_init_185 rfl ?_
  refine r_bipush (v := 6) g dX5_init_186 (by decide) ?_
  refine r_mkI (o := m) (n := 23) (N := 6) (fs' := [.int 0, .int 0, .int 0, .int 0, .ref (m + 1), .ref (m + 2), .ref (m + 3), .ref (m + 4), .ref (m + 5), .ref (m + 6), .int 0, .ref (m + 7), .ref (m + 8), .ref (m + 9), .ref (m + 10), .ref (m + 11), .ref (m + 12), .int 0, .ref (m + 13), .ref (m + 14), .ref (m + 15), .ref (m + 16), .ref (m + 17), .ref (m + 18), .int 0, .ref (m + 19), .ref (m + 20), .ref (m + 21), .ref (m + 22), .ref (m + 23), .null]) g hP (by decide) rfl rfl (by decide) (by have := hR.2.2.1; have : 24 ≤ (cRoom k).cells := this; omega) (by have := hR.2.2.2; have : 5868 ≤ (cRoom k).slots := this; omega) fX5_78 rfl hcn hb (Nat.le_of_ble_eq_true rfl) rfl dX5_init_188 dX5_init_190 ?_
  intro h_23 hP
  refine r_aload_n g dX5_init_193 rfl ?_
  refine r_bipush (v := 6) g dX5_init_194 (by decide) ?_
  refine r_mkI (o := m) (n := 24) (N := 6) (fs' := [.int 0, .int 0, .int 0, .int 0, .ref (m + 1), .ref (m + 2), .ref (m + 3), .ref (m + 4), .ref (m + 5), .ref (m + 6), .int 0, .ref (m + 7), .ref (m + 8), .ref (m + 9), .ref (m + 10), .ref (m + 11), .ref (m + 12), .int 0, .ref (m + 13), .ref (m + 14), .ref (m + 15), .ref (m + 16), .ref (m + 17), .ref (m + 18), .int 0, .ref (m + 19), .ref (m + 20), .ref (m + 21), .ref (m + 22), .ref (m + 23), .ref (m + 24)]) g hP (by decide) rfl rfl (by decide) (by have := hR.2.2.1; have : 24 ≤ (cRoom k).cells := this; omega) (by have := hR.2.2.2; have : 5868 ≤ (cRoom k).slots := this; omega) fX5_81 rfl hcn hb (Nat.le_of_ble_eq_true rfl) rfl dX5_init_196 dX5_init_198 ?_
  intro h_24 hP
  have hMO : MO h_24 m (fun _ => 0) (fun _ _ => 0) (fun _ => 0) := ⟨hP.1, fun kf hk => by have := moff_rng hk; rw [hP.2.1 _ (by omega) (by omega), moE_ok kf hk]⟩
  have hq : ∀ q, q < m → h_24 q = h q := hP.2.2
  have fin : ∀ v : Int32, v = flI f → Sf k (0 + 1 + 1 + 1 + 1 + 1 + 1 + 1 + 1 + 1 + 1 + 1 + 1 + 1 + 1 + 1 + 1 + 1 + 1 + 1 + 1 + 1 + 1 + 1 + 1) (0 + 4 + 4 + 4 + 4 + 4 + 4 + 400 + 400 + 400 + 400 + 400 + 400 + 400 + 400 + 400 + 400 + 24 + 4 + 6 + 6 + 256 + 1536 + 6 + 6) h_24 (m + 25) 223 [some (.ref m), some (.int f), none] [.int v, .ref m] := by
    intro v hv
    have hM := MS.rf hMO
    have loop : ∀ e i (A : Nat → Nat → Int32) (h1 : Hp), MS h_24 h1 m (upd (fun _ => 0) 1 v) A (fun _ => 0) → i + e = 400 → (∀ kf, kf ≠ 18 → A kf = fun _ => 0) → (∀ j, j < i → A 18 j = -1) → Sf k (0 + 1 + 1 + 1 + 1 + 1 + 1 + 1 + 1 + 1 + 1 + 1 + 1 + 1 + 1 + 1 + 1 + 1 + 1 + 1 + 1 + 1 + 1 + 1 + 1) (0 + 4 + 4 + 4 + 4 + 4 + 4 + 400 + 400 + 400 + 400 + 400 + 400 + 400 + 400 + 400 + 400 + 24 + 4 + 6 + 6 + 256 + 1536 + 6 + 6) h1 (m + 25) 228 [some (.ref m), some (.int f), some (.int (nI i))] [] := by
      intro e
      induction e with
      | zero =>
        intro i A h1 hM hi hA hj
        have hi2 : i = 400 := by omega
        subst hi2
        refine r_iload_n g dX5_init_228 rfl ?_
        refine r_sipush (v := 400) g dX5_init_229 (by decide) ?_
        refine r_icmp_ge 248 g dX5_init_232 (by decide) (fun c232 => ?_) (fun c232 => absurd (show (400 : Int32) ≤ nI 400 by decide) c232)
        have h0 : ∀ kf, kf ≠ 18 → ∀ j, A kf j = 0 := fun kf hk j => by rw [hA kf hk]
        refine r_vret g hr (by decide) (by decide) dX5_init_248 ⟨rfl, rfl, ⟨_, A, _, hM.1, ⟨hv.trans (flo_ok f).1.symm, rfl, rfl, rfl, rfl, fun c hc => absurd hc (Nat.not_lt_zero _), fun q hq => absurd hq (Nat.not_lt_zero _), fun q _ => h0 15 (by decide) q⟩, ⟨fun j hj9 => ⟨hj j hj9, Nat.le_refl _, fun z => absurd rfl z⟩, fun c hc => ⟨h0 23 (by decide) c, Nat.zero_le _, fun i hi => absurd hi (Nat.not_lt_zero _)⟩⟩⟩, fun q hq9 => (hM.2 q (Or.inl hq9)).trans (hq q hq9)⟩
      | succ e ih =>
        intro i A h1 hM hi hA hj
        refine r_iload_n g dX5_init_228 rfl ?_
        refine r_sipush (v := 400) g dX5_init_229 (by decide) ?_
        refine r_icmp_ge 248 g dX5_init_232 (by decide) (fun c232 => absurd c232 (nI_ge (b := 400) (by omega) (by decide))) (fun c232 => ?_)
        refine r_aload_n g dX5_init_235 rfl ?_
        refine rm_get g hM fX5_47 rfl dX5_init_236 ?_
        refine r_iload_n g dX5_init_239 rfl ?_
        refine r_iconst (v := (-1)) g dX5_init_240 (by decide) ?_
        refine rm_iast 18 (j := i) g hM hbm rfl (by decide) rfl rfl (show i < 400 by omega) dX5_init_241 ?_
        intro h_101 hM
        refine r_iinc (v := (nI (i + 1))) g dX5_init_242 rfl (nI_add i 1) rfl rfl ?_
        refine r_goto 228 g dX5_init_245 (by decide) ?_
        refine ih (i + 1) _ _ hM (by omega) (fun kf hk => (upA_ne hk).trans (hA kf hk)) (fun j hj9 => ?_)
        rw [upA_eq]
        by_cases e9 : j = i
        · subst e9; exact pk_us
        · exact (pk_un e9).trans (hj j (by omega))
    refine r_putF1 (fs' := mobj m (upd (fun _ => 0) 1 v)) g fX5_84 rfl hcn hM.1.1 hb (Nat.le_of_ble_eq_true rfl) rfl rfl rfl dX5_init_223 ?_
    intro h_99 hU99
    have hM : MS h_24 h_99 m (upd (fun _ => 0) 1 v) (fun _ _ => 0) (fun _ => 0) := ⟨⟨hU99.1, fun kf hk => (hU99.2 _ (by have := moff_rng hk; omega)).trans (hM.1.2 kf hk)⟩, fun q hq9 => hU99.2 q (by omega)⟩
    refine r_iconst (v := 0) g dX5_init_226 (by decide) ?_
    refine r_istore_n g dX5_init_227 rfl rfl rfl ?_
    exact loop 400 0 (fun _ _ => 0) _ hM (by decide) (fun _ _ => rfl) (fun j hj => absurd hj (Nat.not_lt_zero _))
  refine r_aload_n g dX5_init_201 rfl ?_
  refine r_iload_n g dX5_init_202 rfl ?_
  refine r_iconst (v := 2) g dX5_init_203 (by decide) ?_
  refine r_icmp_ge 211 g dX5_init_204 (by decide) (fun c204 => ?_) (fun c204 => ?_)
  · skip
    have q1 : 2 ≤ f := c204
    refine r_iload_n g dX5_init_211 rfl ?_
    refine r_bipush (v := 60) g dX5_init_212 (by decide) ?_
    refine r_icmp_le 222 g dX5_init_214 (by decide) (fun c214 => ?_) (fun c214 => ?_)
    · skip
      refine r_iload_n g dX5_init_222 rfl ?_
      exact fin _ (((flM f).1 q1 c214).symm)
    · skip
      refine r_bipush (v := 60) g dX5_init_217 (by decide) ?_
      refine r_goto 223 g dX5_init_219 (by decide) ?_
      exact fin _ (((flM f).2.1 q1 c214).symm)
  · skip
    have q1 : ¬ 2 ≤ f := c204
    refine r_iconst (v := 2) g dX5_init_207 (by decide) ?_
    refine r_goto 223 g dX5_init_208 (by decide) ?_
    exact fin _ (((flM f).2.2 q1).symm)
