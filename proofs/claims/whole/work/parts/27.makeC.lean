/-! 27: make -/
/-- where the lifts stand: their array before the giving, they behind it, one behind the other -/
def LO (s : AS) (xl gv : Nat) (la : Nat → Nat) : Prop := xl < gv ∧ (∀ c, c < s.1 2 → gv + 14 ≤ la c) ∧ ∀ c c', c < c' → c' < s.1 2 → la c + 4 ≤ la c'
def LW (h : Hp) (s : AS) (xl : Nat) (la : Nat → Nat) (LF : Nat → Nat → Int32) (X : Nat) : Prop := h xl = some (eQ 0 4 (lfA s la)) ∧ ∀ c, c < s.1 2 → h (la c) = some (eO 1 (lobj (la c) (LF c))) ∧ ∃ W CO FI, RO h (la c + 1) W CO FI ∧ (∀ j, j < 7 → CO j = 0) ∧ (c < X → WF s c W ∧ RK s c 64 CO FI)
/-- outside the giving and the lifts' rows all stays -/
def FrG (s : AS) (gv : Nat) (la : Nat → Nat) (h h' : Hp) : Prop := ∀ q, (q < gv ∨ gv + 14 ≤ q) → (∀ c, c < s.1 2 → q < la c + 1 ∨ la c + 4 ≤ q) → h' q = h q
theorem LO.ap {s : AS} {xl gv : Nat} {la : Nat → Nat} (x : LO s xl gv la) {c c' : Nat} (hc : c < s.1 2) (hc' : c' < s.1 2) (n : c ≠ c') : la c + 4 ≤ la c' ∨ la c' + 4 ≤ la c := by
  rcases Nat.lt_or_gt_of_ne n with h | h
  · exact Or.inl (x.2.2 c c' h hc')
  · exact Or.inr (x.2.2 c' c h hc)
theorem LW.gv {s : AS} {xl gv : Nat} {la : Nat → Nat} {LF : Nat → Nat → Int32} {X : Nat} {h h' : Hp} (o : LO s xl gv la) (x : LW h s xl la LF X) (f : Fr gv 14 h h') : LW h' s xl la LF X := by
  refine ⟨(f _ (Or.inl o.1)).trans x.1, fun c hc => ?_⟩
  have h9 := o.2.1 c hc
  obtain ⟨h1, W, CO, FI, h2, h3, h4⟩ := x.2 c hc
  exact ⟨(f _ (by omega)).trans h1, W, CO, FI, h2.fr f (by omega), h3, h4⟩
theorem LW.wgh {s : AS} {xl gv : Nat} {la : Nat → Nat} {LF : Nat → Nat → Int32} {c : Nat} {h h' : Hp} (o : LO s xl gv la) (hc : c < s.1 2) (x : LW h s xl la LF c) {W : Nat → Int32} {CO : Nat → Int64} {FI : Nat → Int32} (y : RwS h h' (la c + 1) W CO FI) (hw : WF s c W) (hk : RK s c 64 CO FI) : LW h' s xl la LF (c + 1) := by
  have h9 := o.2.1 c hc
  refine ⟨(y.2 _ (by have := o.1; omega)).trans x.1, fun c' hc' => ?_⟩
  obtain ⟨h1, W1, CO1, FI1, h2, h3, h4⟩ := x.2 c' hc'
  have h8 := o.2.1 c' hc'
  by_cases e : c' = c
  · subst e
    exact ⟨(y.2 _ (by omega)).trans h1, W, CO, FI, y.1, hk.1, fun _ => ⟨hw, hk⟩⟩
  · have h7 := o.ap hc' hc e
    exact ⟨(y.2 _ (by omega)).trans h1, W1, CO1, FI1, h2.fr y.2 (by omega), h3, fun z => h4 (by omega)⟩
theorem LW.nul {s : AS} {xl : Nat} {la : Nat → Nat} {LF : Nat → Nat → Int32} {c : Nat} {h : Hp} (hc : ¬ c < s.1 2) (x : LW h s xl la LF c) : LW h s xl la LF (c + 1) := by
  refine ⟨x.1, fun c' hc' => ?_⟩
  obtain ⟨h1, W1, CO1, FI1, h2, h3, h4⟩ := x.2 c' hc'
  exact ⟨h1, W1, CO1, FI1, h2, h3, fun z => h4 (by omega)⟩
theorem LW.dn {s : AS} {xl : Nat} {la : Nat → Nat} {LF : Nat → Nat → Int32} {X : Nat} {h : Hp} (x : LW h s xl la LF X) : LW h s xl la LF 0 := by
  refine ⟨x.1, fun c' hc' => ?_⟩
  obtain ⟨h1, W1, CO1, FI1, h2, h3, h4⟩ := x.2 c' hc'
  exact ⟨h1, W1, CO1, FI1, h2, h3, fun z => absurd z (Nat.not_lt_zero _)⟩
theorem LW.lr {s : AS} {xl gv : Nat} {la : Nat → Nat} {LF : Nat → Nat → Int32} {X : Nat} {h : Hp} (hX : s.1 2 ≤ X) (o : LO s xl gv la) (x : LW h s xl la LF X) : LR h s xl gv la := by
  refine ⟨x.1, Or.inl o.1, fun c hc => ?_⟩
  obtain ⟨h1, W, CO, FI, h2, -, h4⟩ := x.2 c hc
  have := h4 (by omega)
  exact ⟨Or.inl (o.2.1 c hc), LF c, W, CO, FI, h1, h2, this.1, this.2⟩
theorem FrG.rf {s : AS} {gv : Nat} {la : Nat → Nat} {h : Hp} : FrG s gv la h h := fun _ _ _ => rfl
theorem FrG.gv {s : AS} {gv : Nat} {la : Nat → Nat} {h0 h h' : Hp} (x : FrG s gv la h0 h) (f : Fr gv 14 h h') : FrG s gv la h0 h' := fun q h1 h2 => (f q h1).trans (x q h1 h2)
theorem FrG.wgh {s : AS} {gv : Nat} {la : Nat → Nat} {h0 h h' : Hp} {c : Nat} (hc : c < s.1 2) (x : FrG s gv la h0 h) (f : Fr (la c + 1) 3 h h') : FrG s gv la h0 h' := fun q h1 h2 => (f q (by have := h2 c hc; omega)).trans (x q h1 h2)
theorem psumF_0 (s : AS) (d : List Nat) : ∀ k, psumF s d 0 k = 0
  | 0 => rfl
  | k + 1 => by
    show psumF s d 0 k + gcst s k 0 = 0
    rw [psumF_0 s d k, show gcst s k 0 = bpc s k 0 6 from rfl, (bp_0 s k 6).1]
theorem max_sub {a b : Nat} (ha : a < 2 ^ 31) (hb : b < 2 ^ 31) : (if (0 : Int32) < nI a - nI b then nI a - nI b else 0) = nI (a - b) := by
  by_cases h : b ≤ a
  · rw [nI_sb (show a = b + (a - b) by omega)]
    by_cases e : a - b = 0
    · rw [e, if_neg (by decide)]; rfl
    · exact if_pos ((nI_ltI (a := 0) (b := a - b) (by decide) (by omega)).mpr (by omega))
  · have h0 : ¬ (0 : Int32) < nI a - nI b := by
      rw [Int32.lt_iff_toInt_lt, Int32.toInt_sub, nI_toInt ha, nI_toInt hb, show (0 : Int32).toInt = 0 from rfl, Int.bmod_def]
      split <;> omega
    rw [if_neg h0, show a - b = 0 by omega]
    rfl
theorem accE_all {s : AS} (hA : AI s) : accE s [] (gn s) none = some (gsum s, gd s) := by
  unfold accE
  rw [show (asg (gn s)).map (fun x => [] ++ x) = asg (gn s) from List.map_id _, ← gways_asg hA]
  exact (gway_at hA).1
/-- the rows of the cars below c are told -/
def RT (s : AS) (c : Nat) (GA0 GA : Nat → Nat → Int32) : Prop := (∀ kf, kf ≠ 4 → kf ≠ 5 → kf ≠ 11 → GA kf = GA0 kf) ∧
  (∀ x, x < gn s → (gd s).getD x 0 < c → GA 4 x = nI (gE s ((gd s).getD x 0) x).1 ∧ GA 5 x = nI (gE s ((gd s).getD x 0) x).2) ∧
  ∀ c2 j, c2 < 4 → j < 6 → GA 11 (c2 * 6 + j) = if c2 < c ∧ j < (gRow s c2).length then nI (gk s ((gRow s c2).getD j 0)) else GA0 11 (c2 * 6 + j)
theorem RT.ini {s : AS} {GA : Nat → Nat → Int32} : RT s 0 GA GA := ⟨fun _ _ _ _ => rfl, fun _ _ h => absurd h (Nat.not_lt_zero _), fun _ _ _ _ => (if_neg (fun z => absurd z.1 (Nat.not_lt_zero _))).symm⟩
theorem RT.nul {s : AS} (hA : AI s) {c : Nat} (hc : ¬ c < s.1 2) {GA0 GA : Nat → Nat → Int32} (x : RT s c GA0 GA) : RT s (c + 1) GA0 GA := by
  refine ⟨x.1, fun y hy h => x.2.1 y hy (by have := (gd_at hA hy).1; omega), fun c2 j h2 hj => ?_⟩
  rw [x.2.2 c2 j h2 hj]
  by_cases e : c2 = c
  · subst e
    have : gRow s c2 = [] := by unfold gRow; rw [if_neg hc]
    rw [this, if_neg (fun z => absurd z.2 (Nat.not_lt_zero _)), if_neg (fun z => absurd z.2 (Nat.not_lt_zero _))]
  · by_cases e2 : c2 < c ∧ j < (gRow s c2).length
    · rw [if_pos e2, if_pos ⟨by omega, e2.2⟩]
    · rw [if_neg e2, if_neg (fun z => e2 ⟨by omega, z.2⟩)]
theorem RT.tel {s : AS} {c : Nat} (hc : c < 4) {C C' : Int32} {Lz Lz' : Int64} {GA0 GA GA' : Nat → Nat → Int32} (x : RT s c GA0 GA) (y : QTe s c C Lz GA C' Lz' GA') : RT s (c + 1) GA0 GA' := by
  obtain ⟨-, -, hf, hx, h1, h2⟩ := y
  refine ⟨fun kf k1 k2 k3 => (hf kf k1 k2 k3).trans (x.1 kf k1 k2 k3), fun z hz hl => ?_, fun c2 j hc2 hj => ?_⟩
  · have h9 := hx z hz
    by_cases e : (gd s).getD z 0 = c
    · rw [if_pos e] at h9
      rw [e]
      exact h9
    · rw [if_neg e] at h9
      rw [h9.1, h9.2]
      exact x.2.1 z hz (by omega)
  · by_cases e : c2 = c
    · subst e
      rw [h2 j hj]
      by_cases e2 : j < (gRow s c2).length
      · rw [if_pos e2, if_pos ⟨Nat.lt_succ_self _, e2⟩]
      · rw [if_neg e2, if_neg (fun z => e2 z.2), x.2.2 c2 j hc2 hj, if_neg (fun z => e2 z.2)]
    · rw [h1 _ (by omega), x.2.2 c2 j hc2 hj]
      by_cases e2 : c2 < c ∧ j < (gRow s c2).length
      · rw [if_pos e2, if_pos ⟨by omega, e2.2⟩]
      · rw [if_neg e2, if_neg (fun z => e2 ⟨by omega, z.2⟩)]
/-- what make sets -/
def QMk (s : AS) (GA : Nat → Nat → Int32) (C' : Int32) (Lz' : Int64) (GA' : Nat → Nat → Int32) : Prop := C' = nI (gn s) ∧ Lz' = lN (gsum s) ∧ (∀ kf, kf < 3 ∨ kf = 8 ∨ kf = 9 ∨ kf = 10 → GA' kf = GA kf) ∧ GA' 6 0 = 0 ∧
  (∀ x, x < gn s → GA' 3 x = nI ((gd s).getD x 0) ∧ GA' 4 x = nI (gE s ((gd s).getD x 0) x).1 ∧ GA' 5 x = nI (gE s ((gd s).getD x 0) x).2) ∧
  ∀ c j, c < 4 → j < 6 → GA' 11 (c * 6 + j) = if j < (gRow s c).length then nI (gk s ((gRow s c).getD j 0)) else GA 11 (c * 6 + j)
def KMk (h : Hp) (nx gv xl : Nat) (s : AS) (la : Nat → Nat) (LF : Nat → Nat → Int32) (GA : Nat → Nat → Int32) : Option Value → Hp → Nat → Prop := fun v h' nx' => v = some (.long (lN (gsum s))) ∧ nx = nx' ∧ ∃ C' Lz' GA', GO h' gv C' Lz' GA' ∧ QMk s GA C' Lz' GA' ∧ LW h' s xl la LF 0 ∧ FrG s gv la h h'
theorem GF.cong {s : AS} {GA GA' : Nat → Nat → Int32} (h : GF s GA) (e : ∀ kf, kf < 3 ∨ kf = 8 ∨ kf = 9 ∨ kf = 10 → GA' kf = GA kf) : GF s GA' := fun i hi => by
  rw [e 0 (by omega), e 1 (by omega), e 2 (by omega), e 8 (by omega), e 9 (by omega), e 10 (by omega)]
  exact h i hi

set_option maxHeartbeats 4000000 in
set_option maxRecDepth 100000 in
theorem ok_g_make (l : Launch) (G : Nat → ClassId) (D : va_G) (base : Nat) {h0 : Hp} {nx : Nat} {gv : Nat} {C : Int32} {Lz : Int64} {GA : Nat → Nat → Int32} (s : AS) (hA : AI s) {xl : Nat} {la : Nat → Nat} {LF : Nat → Nat → Int32} {cs : Nat → Nat} (hC : C = nI (gn s)) (hF : GF s GA) (h60 : GA 6 0 = 0) (hO : LO s xl gv la) (hL0 : LW h0 s xl la LF 0) (hLF : ∀ c, c < s.1 2 → LF c 0 = nI (s.2.1 c 0) ∧ LF c 1 = nI (s.2.1 c 1) ∧ LF c 2 = nI (cs c) ∧ cs c < 2 ^ 31 ∧ cs c - s.1 1 = gdl s c) (hG : GO h0 gv C Lz GA) (hbg : base ≤ gv) : MetP l G D base miX0_make 9 0 0 [.ref gv, .ref xl, .int (nI (s.1 1))] h0 nx (KMk h0 nx gv xl s la LF GA) := by
  refine MetP_of (by decide +kernel) rfl ?_
  intro k g hr hR hcl hcg hcd hcb hcn hnx
  subst hcl; subst hcg; subst hcd; subst hcb
  have hG := GS.rf hG
  show Sf k 0 0 h0 nx 0 [some (.ref gv), some (.ref xl), some (.int (nI (s.1 1))), none, none] []
  have hg6 := gn_le hA
  have h64 := g6_64 hg6
  have hgv := hO.1
  have loop3 : ∀ GAp : Nat → Nat → Int32, GF s GAp → (∀ i, i < gn s → GAp 3 i = nI ((gd s).getD i 0)) → GAp 6 0 = 0 → (∀ kf, kf < 3 ∨ kf = 8 ∨ kf = 9 ∨ kf = 10 → GAp kf = GA kf) → GAp 11 = GA 11 → ∀ e c (GA1 : Nat → Nat → Int32) (h : Hp), GO h gv C (lN (gsum s)) GA1 → c + e = 4 → LW h s xl la LF 4 → FrG s gv la h0 h → RT s c GAp GA1 → Sf k 0 0 h nx 79 [some (.ref gv), some (.ref xl), some (.int (nI (s.1 1))), some (.int (nI c)), none] [] := by
    intro GAp hFp h3p h6p hep h11p e
    induction e with
    | zero =>
      intro c GA1 h hG hc hL hFr hT
      have hc4 : c = 4 := by omega
      subst hc4
      have hG := GS.rf hG
      refine r_iload_n g dX0_make_79 rfl ?_
      refine r_iconst (v := 4) g dX0_make_80 (by decide) ?_
      refine r_icmp_ge 116 g dX0_make_81 (by decide) (fun c81 => ?_) (fun c81 => absurd (show (4 : Int32) ≤ nI 4 by decide) c81)
      refine r_aload_n g dX0_make_116 rfl ?_
      refine r_getf g fX0_94 hG.1.1 rfl dX0_make_117 ?_
      refine r_lret g hr (Nat.le_refl _) (Nat.le_refl _) dX0_make_120 ⟨rfl, rfl, C, _, GA1, hG.1, ⟨hC, rfl, fun kf hk => (hT.1 kf (by omega) (by omega) (by omega)).trans (hep kf hk), by rw [hT.1 6 (by decide) (by decide) (by decide)]; exact h6p, fun x hx => ⟨by rw [hT.1 3 (by decide) (by decide) (by decide)]; exact h3p x hx, hT.2.1 x hx (by have := (gd_at hA hx).1; have := hA.2.2.1; omega)⟩, fun c j hc hj => ?_⟩, hL.dn, hFr⟩
      rw [hT.2.2 c j hc hj, h11p]
      by_cases e9 : j < (gRow s c).length
      · rw [if_pos e9, if_pos ⟨hc, e9⟩]
      · rw [if_neg e9, if_neg (fun z => e9 z.2)]
    | succ e ih =>
      intro c GA1 h hG hc hL hFr hT
      have hG := GS.rf hG
      by_cases hcc : c < s.1 2
      · skip
        have h9 := hO.2.1 c hcc
        obtain ⟨hLo, W, CO, FI, hWo, hC7, hWK⟩ := hL.2 c hcc
        obtain ⟨hWF, hRK⟩ := hWK (by omega)
        have hF1 : GF s GA1 := hFp.cong (fun kf hk => hT.1 kf (by omega) (by omega) (by omega))
        have h31 : ∀ i, i < gn s → GA1 3 i = nI ((gd s).getD i 0) := fun i hi => by rw [hT.1 3 (by decide) (by decide) (by decide)]; exact h3p i hi
        refine r_iload_n g dX0_make_79 rfl ?_
        refine r_iconst (v := 4) g dX0_make_80 (by decide) ?_
        refine r_icmp_ge 116 g dX0_make_81 (by decide) (fun c81 => absurd c81 (nI_ge (b := 4) (by omega) (by decide))) (fun c81 => ?_)
        refine r_iload_n g dX0_make_84 rfl ?_
        refine r_aload_n g dX0_make_85 rfl ?_
        refine r_alen g (hL.gv hO hG.2).1 (by decide) dX0_make_86 ?_
        refine r_icmp_ge 116 g dX0_make_87 (by decide) (fun c87 => absurd c87 (nI_ge (b := 4) (by omega) (by decide))) (fun c87 => ?_)
        refine r_aload_n g dX0_make_90 rfl ?_
        refine r_iload_n g dX0_make_91 rfl ?_
        refine r_aaldR (t := 0) (j := c) (v := (la c)) g (hL.gv hO hG.2).1 (by decide) (if_pos hcc) rfl (by omega) (by decide) dX0_make_92 ?_
        refine r_astore g dX0_make_93 rfl rfl rfl ?_
        refine r_aload g dX0_make_95 rfl ?_
        refine r_ifnull g dX0_make_97 ?_
        refine r_aload_n g dX0_make_100 rfl ?_
        refine r_aload g dX0_make_101 rfl ?_
        refine r_getf g fX0_73 ((hG.2 _ (by omega)).trans hLo) rfl dX0_make_103 ?_
        refine r_iload_n g dX0_make_106 rfl ?_
        refine r_callV g kX0_102 (ok_g_tell _ _ _ _ s hA hcc hC hF1 h31 (hWo.fr hG.2 (by omega)) (Or.inl (by omega)) hWF hRK hG.1 hbg) hG.1.1 rfl rfl rfl hnx hR (by decide) (Nat.zero_le _) (Nat.zero_le _) rfl rfl dX0_make_107 ?_
        rintro v9 h_1 nx9 ⟨rfl, rfl, C9, Lz9, GA9, hG9, hQ9⟩ -
        refine r_iinc (v := (nI (c + 1))) g dX0_make_110 rfl (nI_add c 1) rfl rfl ?_
        refine r_goto 79 g dX0_make_113 (by decide) ?_
        refine r_le (ls2 := [some (.ref gv), some (.ref xl), some (.int (nI (s.1 1))), some (.int (nI (c + 1))), none]) ⟨rfl, rfl, rfl, rfl, trivial⟩ ?_
        have hT2 := hT.tel (by omega) hQ9
        obtain ⟨rfl, rfl, -⟩ := hQ9
        exact ih (c + 1) GA9 _ hG9.1 (by omega) (hL.gv hO hG9.2) (hFr.gv hG9.2) hT2
      · skip
        refine r_iload_n g dX0_make_79 rfl ?_
        refine r_iconst (v := 4) g dX0_make_80 (by decide) ?_
        refine r_icmp_ge 116 g dX0_make_81 (by decide) (fun c81 => absurd c81 (nI_ge (b := 4) (by omega) (by decide))) (fun c81 => ?_)
        refine r_iload_n g dX0_make_84 rfl ?_
        refine r_aload_n g dX0_make_85 rfl ?_
        refine r_alen g (hL.gv hO hG.2).1 (by decide) dX0_make_86 ?_
        refine r_icmp_ge 116 g dX0_make_87 (by decide) (fun c87 => absurd c87 (nI_ge (b := 4) (by omega) (by decide))) (fun c87 => ?_)
        refine r_aload_n g dX0_make_90 rfl ?_
        refine r_iload_n g dX0_make_91 rfl ?_
        refine r_aaldN (t := 0) (j := c) g (hL.gv hO hG.2).1 (by decide) (if_neg hcc) rfl (by omega) (by decide) dX0_make_92 ?_
        refine r_astoreN g dX0_make_93 rfl rfl rfl ?_
        refine r_aloadN g dX0_make_95 rfl ?_
        refine r_ifnullN 110 g dX0_make_97 (by decide) ?_
        refine r_iinc (v := (nI (c + 1))) g dX0_make_110 rfl (nI_add c 1) rfl rfl ?_
        refine r_goto 79 g dX0_make_113 (by decide) ?_
        refine r_le (ls2 := [some (.ref gv), some (.ref xl), some (.int (nI (s.1 1))), some (.int (nI (c + 1))), none]) ⟨rfl, rfl, rfl, rfl, trivial⟩ ?_
        exact ih (c + 1) GA1 _ hG.1 (by omega) hL hFr (hT.nul hA hcc)
  have mid : ∀ (GA1 : Nat → Nat → Int32) (h : Hp), GO h gv C Lz GA1 → LW h s xl la LF 4 → FrG s gv la h0 h → (∀ kf, kf ≠ 6 → kf ≠ 13 → GA1 kf = GA kf) → GA1 6 0 = 0 → (∀ j, j < 4 → GA1 13 j = 0) → Sf k 0 0 h nx 63 [some (.ref gv), some (.ref xl), some (.int (nI (s.1 1))), none, none] [] := by
    intro GA1 h hG hL hFr hf1 h601 h131
    have hG := GS.rf hG
    refine r_aload_n g dX0_make_63 rfl ?_
    refine r_ldc2 g dX0_make_64 vX0_92 ?_
    refine rg_lst (v := 1152921504606846976) g hG hbg fX0_94 dX0_make_67 ?_
    intro h_2 hG
    refine r_aload_n g dX0_make_70 rfl ?_
    refine r_aload_n g dX0_make_71 rfl ?_
    refine r_iconst (v := 0) g dX0_make_72 (by decide) ?_
    refine r_lconst (v := 0) g dX0_make_73 (by decide) ?_
    refine r_topl (y := (lN (psumF s [] 0 (s.1 2)))) (by rw [psumF_0]; rfl) ?_
    have hF1 : GF s GA1 := hF.cong (fun kf hk => hf1 kf (by omega) (by omega))
    refine r_callS g kX0_98 (ok_g_place _ _ _ _ s hA (gn s) [] 0 none _ C (lN 1152921504606846976) GA1 rfl (Nat.zero_add _) hC (fun i hi => (hF1 i hi).2.2.2.2.1) (fun c hc => h131 c hc) (fun i hi => absurd hi (Nat.not_lt_zero _)) ⟨rfl, Nat.le_refl _, fun b hb => (by cases hb)⟩ (fun i hi => absurd hi (Nat.not_lt_zero _)) (by rw [psumF_0]; decide) ((hL.gv hO hG.2).lr (by have := hA.2.2.1; omega) hO) hG.1 hbg) rfl rfl hnx hR (by omega) (Nat.zero_le _) (Nat.zero_le _) rfl rfl dX0_make_74 ?_
    rintro v9 h_3 nx9 ⟨rfl, rfl, Lz9, GA9, hG9, hAcc9, hSt9⟩ -
    rw [accE_all hA] at hAcc9
    have hG := hG.then hG9
    have eL : Lz9 = lN (gsum s) := hAcc9.1
    subst eL
    refine r_iconst (v := 0) g dX0_make_77 (by decide) ?_
    refine r_istore_n g dX0_make_78 rfl rfl rfl ?_
    refine r_le (ls2 := [some (.ref gv), some (.ref xl), some (.int (nI (s.1 1))), some (.int (nI 0)), none]) ⟨rfl, rfl, rfl, rfl, trivial⟩ ?_
    exact loop3 GA9 (hF1.cong (fun kf hk => hSt9.1 kf (by omega) (by omega) (by omega))) (fun i hi => hAcc9.2.2 (gsum s, gd s) rfl i hi) (by rw [hSt9.1 6 (by decide) (by decide) (by decide)]; exact h601) (fun kf hk => (hSt9.1 kf (by omega) (by omega) (by omega)).trans (hf1 kf (by omega) (by omega))) ((hSt9.1 11 (by decide) (by decide) (by decide)).trans (hf1 11 (by decide) (by decide))) 4 0 GA9 _ hG.1 rfl (hL.gv hO hG.2) (hFr.gv hG.2) RT.ini
  have loop1 : ∀ GAw : Nat → Nat → Int32, GF s GAw → BU s GAw → (∀ kf, kf ≠ 6 → GAw kf = GA kf) → ∀ e c (GA1 : Nat → Nat → Int32) (h : Hp), GO h gv C Lz GA1 → c + e = 4 → LW h s xl la LF c → FrG s gv la h0 h → (∀ kf, kf ≠ 13 → GA1 kf = GAw kf) → (∀ j, j < c → GA1 13 j = 0) → Sf k 0 0 h nx 6 [some (.ref gv), some (.ref xl), some (.int (nI (s.1 1))), some (.int (nI c)), none] [] := by
    intro GAw hFw hBw hew e
    induction e with
    | zero =>
      intro c GA1 h hG hc hL hFr hf1 h13
      have hc4 : c = 4 := by omega
      subst hc4
      have hG := GS.rf hG
      refine r_iload_n g dX0_make_6 rfl ?_
      refine r_iconst (v := 4) g dX0_make_7 (by decide) ?_
      refine r_icmp_ge 63 g dX0_make_8 (by decide) (fun c8 => ?_) (fun c8 => absurd (show (4 : Int32) ≤ nI 4 by decide) c8)
      refine r_le (ls2 := [some (.ref gv), some (.ref xl), some (.int (nI (s.1 1))), none, none]) ⟨rfl, rfl, rfl, trivial⟩ ?_
      exact mid GA1 _ hG.1 hL hFr (fun kf k1 k2 => (hf1 kf k2).trans (hew kf k1)) (by rw [hf1 6 (by decide), hBw 0 (Nat.pow_pos (by decide)), burS_00]; rfl) h13
    | succ e ih =>
      intro c GA1 h hG hc hL hFr hf1 h13
      have hG := GS.rf hG
      by_cases hcc : c < s.1 2
      · skip
        have h9 := hO.2.1 c hcc
        obtain ⟨hLo, W, CO, FI, hWo, hC7, hWK⟩ := hL.2 c hcc
        have hcs := hLF c hcc
        refine r_iload_n g dX0_make_6 rfl ?_
        refine r_iconst (v := 4) g dX0_make_7 (by decide) ?_
        refine r_icmp_ge 63 g dX0_make_8 (by decide) (fun c8 => absurd c8 (nI_ge (b := 4) (by omega) (by decide))) (fun c8 => ?_)
        refine r_iload_n g dX0_make_11 rfl ?_
        refine r_aload_n g dX0_make_12 rfl ?_
        refine r_alen g (hL.gv hO hG.2).1 (by decide) dX0_make_13 ?_
        refine r_icmp_ge 63 g dX0_make_14 (by decide) (fun c14 => absurd c14 (nI_ge (b := 4) (by omega) (by decide))) (fun c14 => ?_)
        refine r_aload_n g dX0_make_17 rfl ?_
        refine r_iload_n g dX0_make_18 rfl ?_
        refine r_aaldR (t := 0) (j := c) (v := (la c)) g (hL.gv hO hG.2).1 (by decide) (if_pos hcc) rfl (by omega) (by decide) dX0_make_19 ?_
        refine r_astore g dX0_make_20 rfl rfl rfl ?_
        refine r_aload_n g dX0_make_22 rfl ?_
        refine r_getf g fX0_50 hG.1.1 rfl dX0_make_23 ?_
        refine r_iload_n g dX0_make_26 rfl ?_
        refine r_iconst (v := 0) g dX0_make_27 (by decide) ?_
        refine rg_iast 13 (j := c) g hG hbg rfl rfl (show c < 4 by omega) dX0_make_28 ?_
        intro h_4 hG
        refine r_aload g dX0_make_29 rfl ?_
        refine r_ifnull g dX0_make_31 ?_
        refine r_aload g dX0_make_34 rfl ?_
        refine r_getf g fX0_73 ((hG.2 _ (by omega)).trans hLo) rfl dX0_make_36 ?_
        refine r_aload_n g dX0_make_39 rfl ?_
        refine r_aload g dX0_make_40 rfl ?_
        refine r_iload_n g dX0_make_42 rfl ?_
        refine r_iconst (v := 0) g dX0_make_43 (by decide) ?_
        refine r_aload g dX0_make_44 rfl ?_
        refine r_getf g fX0_79 ((hG.2 _ (by omega)).trans hLo) rfl dX0_make_46 ?_
        refine r_topi (y := (nI (cs c))) hcs.2.2.1 ?_
        refine r_iload_n g dX0_make_49 rfl ?_
        refine r_isub g dX0_make_50 ?_
        refine r_max g kX0_82 hR (by decide) (Nat.zero_le _) (Nat.zero_le _) rfl dX0_make_51 ?_
        refine r_topi (y := (nI (gdl s c))) ((max_sub (by omega) (by have := hA.2.1; omega)).trans (congrArg nI hcs.2.2.2.2)) ?_
        have hF1 : GF s (upA GA1 13 (upd (GA1 13) c 0)) := hFw.cong (fun kf hk => (upA_ne (by omega)).trans (hf1 kf (by omega)))
        have hB1 : BU s (upA GA1 13 (upd (GA1 13) c 0)) := fun S hS => by rw [upA_ne (by decide), hf1 6 (by decide)]; exact hBw S hS
        refine r_callV g kX0_88 (ok_r_weigh _ _ _ _ s hA hcc (la := la c) (LF := LF c) (hWo.fr hG.2 (by omega)) hC7 hC hG.1 (by omega) hF1 hB1 ((hG.2 _ (by omega)).trans hLo) (by omega) (hLF c hcc).1 (hLF c hcc).2.1 (by omega)) (hWo.fr hG.2 (by omega)).1 rfl rfl rfl hnx hR (by decide) (Nat.zero_le _) (Nat.zero_le _) rfl rfl dX0_make_54 ?_
        rintro v9 h_5 nx9 ⟨rfl, rfl, W9, CO9, FI9, hW9, hWF9, hRK9⟩ -
        refine r_iinc (v := (nI (c + 1))) g dX0_make_57 rfl (nI_add c 1) rfl rfl ?_
        refine r_goto 6 g dX0_make_60 (by decide) ?_
        refine r_le (ls2 := [some (.ref gv), some (.ref xl), some (.int (nI (s.1 1))), some (.int (nI (c + 1))), none]) ⟨rfl, rfl, rfl, rfl, trivial⟩ ?_
        refine ih (c + 1) _ _ (hG.1.fr hW9.2 (by omega)) (by omega) ((hL.gv hO hG.2).wgh hO hcc hW9 hWF9 hRK9) ((hFr.gv hG.2).wgh hcc hW9.2) (fun kf hk => (upA_ne hk).trans (hf1 kf hk)) (fun j hj => ?_)
        rw [upA_eq]
        by_cases e9 : j = c
        · subst e9; exact pk_us
        · exact (pk_un e9).trans (h13 j (by omega))
      · skip
        refine r_iload_n g dX0_make_6 rfl ?_
        refine r_iconst (v := 4) g dX0_make_7 (by decide) ?_
        refine r_icmp_ge 63 g dX0_make_8 (by decide) (fun c8 => absurd c8 (nI_ge (b := 4) (by omega) (by decide))) (fun c8 => ?_)
        refine r_iload_n g dX0_make_11 rfl ?_
        refine r_aload_n g dX0_make_12 rfl ?_
        refine r_alen g (hL.gv hO hG.2).1 (by decide) dX0_make_13 ?_
        refine r_icmp_ge 63 g dX0_make_14 (by decide) (fun c14 => absurd c14 (nI_ge (b := 4) (by omega) (by decide))) (fun c14 => ?_)
        refine r_aload_n g dX0_make_17 rfl ?_
        refine r_iload_n g dX0_make_18 rfl ?_
        refine r_aaldN (t := 0) (j := c) g (hL.gv hO hG.2).1 (by decide) (if_neg hcc) rfl (by omega) (by decide) dX0_make_19 ?_
        refine r_astoreN g dX0_make_20 rfl rfl rfl ?_
        refine r_aload_n g dX0_make_22 rfl ?_
        refine r_getf g fX0_50 hG.1.1 rfl dX0_make_23 ?_
        refine r_iload_n g dX0_make_26 rfl ?_
        refine r_iconst (v := 0) g dX0_make_27 (by decide) ?_
        refine rg_iast 13 (j := c) g hG hbg rfl rfl (show c < 4 by omega) dX0_make_28 ?_
        intro h_6 hG
        refine r_aloadN g dX0_make_29 rfl ?_
        refine r_ifnullN 57 g dX0_make_31 (by decide) ?_
        refine r_iinc (v := (nI (c + 1))) g dX0_make_57 rfl (nI_add c 1) rfl rfl ?_
        refine r_goto 6 g dX0_make_60 (by decide) ?_
        refine r_le (ls2 := [some (.ref gv), some (.ref xl), some (.int (nI (s.1 1))), some (.int (nI (c + 1))), none]) ⟨rfl, rfl, rfl, rfl, trivial⟩ ?_
        refine ih (c + 1) _ _ hG.1 (by omega) ((hL.gv hO hG.2).nul hcc) (hFr.gv hG.2) (fun kf hk => (upA_ne hk).trans (hf1 kf hk)) (fun j hj => ?_)
        rw [upA_eq]
        by_cases e9 : j = c
        · subst e9; exact pk_us
        · exact (pk_un e9).trans (h13 j (by omega))
  refine r_aload_n g dX0_make_0 rfl ?_
  refine r_callV g kX0_70 (ok_g_weighSets _ _ _ _ s hA hC hF h60 hG.1 hbg) hG.1.1 rfl rfl rfl hnx hR (by decide) (Nat.zero_le _) (Nat.zero_le _) rfl rfl dX0_make_1 ?_
  rintro v9 h_7 nx9 ⟨rfl, rfl, C9, Lz9, GA9, hG9, rfl, rfl, hf9, hB9⟩ -
  have hG := hG.then hG9
  refine r_iconst (v := 0) g dX0_make_4 (by decide) ?_
  refine r_istore_n g dX0_make_5 rfl rfl rfl ?_
  refine r_le (ls2 := [some (.ref gv), some (.ref xl), some (.int (nI (s.1 1))), some (.int (nI 0)), none]) ⟨rfl, rfl, rfl, rfl, trivial⟩ ?_
  exact loop1 GA9 (hF.cong (fun kf hk => hf9 kf (by omega))) hB9 hf9 4 0 GA9 _ hG.1 rfl (hL0.gv hO hG.2) (FrG.rf.gv hG.2) (fun _ _ => rfl) (fun j hj => absurd hj (Nat.not_lt_zero _))
