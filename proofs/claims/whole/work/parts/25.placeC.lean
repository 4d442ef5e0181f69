/-! 25: keep, place -/
theorem wcp1 : Cond.methodLink RX0 114 arraycopyName ∈ UW := mt1 (i := 204) rfl rfl
theorem wcp2 : Cond.native arraycopyName ∈ UW := mt1 (i := 206) rfl rfl
theorem wcp3 : Cond.static arraycopyName ∈ UW := mt1 (i := 205) rfl rfl
theorem wcp4 : Cond.initialized "java/lang/System" ∈ UW := mt1 (i := 13) rfl rfl
theorem cpy_at {f g : Nat → Int32} {n j : Nat} (h : j < n) : va_cpy f g 0 0 n j = f j := by
  show (if 0 ≤ j ∧ j < 0 + n then f (0 + (j - 0)) else g j) = _
  rw [if_pos ⟨Nat.zero_le _, by omega⟩, Nat.zero_add, Nat.sub_zero]
/-- what place sets -/
def KPl (h : Hp) (nx gv : Nat) (C : Int32) (GA : Nat → Nat → Int32) (s : AS) (d : List Nat) (m r : Nat) (a : Option (Nat × List Nat)) : Option Value → Hp → Nat → Prop := fun v h' nx' => v = none ∧ nx = nx' ∧ ∃ Lz' GA', GS h h' gv C Lz' GA' ∧ AccG s (accE s d r a) Lz' GA' ∧ StG GA GA' m

set_option maxHeartbeats 4000000 in
set_option maxRecDepth 100000 in
theorem ok_g_keep (l : Launch) (G : Nat → ClassId) (D : va_G) (base : Nat) {h0 : Hp} {nx : Nat} {gv : Nat} {C : Int32} {Lz : Int64} {GA : Nat → Nat → Int32} {v : Int64} (hG : GO h0 gv C Lz GA) (hbg : base ≤ gv) : MetP l G D base miX0_keep 1 0 0 [.ref gv, .long v] h0 nx (KGs h0 nx gv (fun C2 Lz2 GA2 => C2 = C ∧ Lz2 = v ∧ (∀ kf, kf ≠ 3 → GA2 kf = GA kf) ∧ ∀ j, j < 6 → GA2 3 j = GA 12 j) none) := by
  refine MetP_of (by decide +kernel) rfl ?_
  intro k g hr hR hcl hcg hcd hcb hcn hnx
  subst hcl; subst hcg; subst hcd; subst hcb
  have hG := GS.rf hG
  show Sf k 0 0 h0 nx 0 [some (.ref gv), some (.long v), none] []
  refine r_aload_n g dX0_keep_0 rfl ?_
  refine r_lload_n g dX0_keep_1 rfl ?_
  refine rg_lst (v := v) g hG hbg fX0_94 dX0_keep_2 ?_
  intro h_1 hG
  refine r_aload_n g dX0_keep_5 rfl ?_
  refine r_getf g fX0_47 hG.1.1 rfl dX0_keep_6 ?_
  refine r_iconst (v := 0) g dX0_keep_9 (by decide) ?_
  refine r_aload_n g dX0_keep_10 rfl ?_
  refine r_getf g fX0_21 hG.1.1 rfl dX0_keep_11 ?_
  refine r_iconst (v := 0) g dX0_keep_14 (by decide) ?_
  refine r_bipush (v := 6) g dX0_keep_15 (by decide) ?_
  refine r_copyI (N := 6) g wcp1 wcp2 wcp3 wcp4 (hG.1.2 12 rfl) (hG.1.2 3 rfl) (Nat.le_trans hbg (Nat.le_add_right _ _)) rfl (by decide) (by decide) (by decide) hR (by decide) rfl dX0_keep_17 ?_
  have hG := hG.putA (kf := 3) (f := va_cpy (GA 12) (GA 3) 0 0 6) rfl
  exact r_vret g hr (Nat.le_refl _) (Nat.le_refl _) dX0_keep_20 ⟨rfl, rfl, C, v, _, hG, rfl, rfl, fun kf hk => upA_ne hk, fun j hj => by rw [upA_eq]; exact cpy_at hj⟩
set_option maxHeartbeats 4000000 in
set_option maxRecDepth 100000 in
theorem ok_g_place (l : Launch) (G : Nat → ClassId) (D : va_G) (base : Nat) (s : AS) (hA : AI s) {nx gv xl : Nat} {la : Nat → Nat} : ∀ (r : Nat) (d : List Nat) (m : Nat) (a : Option (Nat × List Nat)) (h0 : Hp) (C : Int32) (Lz : Int64) (GA : Nat → Nat → Int32), d.length = m → m + r = gn s → C = nI (gn s) → (∀ i, i < gn s → GA 9 i = nI (carsN s (gk s i))) → (∀ c, c < 4 → GA 13 c = nI (setO d c m)) → (∀ i, i < m → GA 12 i = nI (d.getD i 0)) → AccG s a Lz GA → okD s d → psumF s d m (s.1 2) < curA a → LR h0 s xl gv la → GO h0 gv C Lz GA → base ≤ gv → MetP l G D base miX0_place (r + 2) 0 0 [.ref gv, .ref xl, .int (nI m), .long (lN (psumF s d m (s.1 2)))] h0 nx (KPl h0 nx gv C GA s d m r a) := by
  intro r
  induction r with
  | zero =>
    intro d m a h0 C Lz GA hm hmr hC h9 hLd hTr hAcc hok hlt hLR hG hbg
    refine MetP_of (by decide +kernel) rfl ?_
    intro k g hr hR hcl hcg hcd hcb hcn hnx
    subst hcl; subst hcg; subst hcd; subst hcb
    subst hm
    have hG := GS.rf hG
    have hg6 := gn_le hA
    have h64 := g6_64 hg6
    show Sf k 0 0 h0 nx 0 [some (.ref gv), some (.ref xl), some (.int (nI d.length)), some (.long (lN (psumF s d d.length (s.1 2)))), none, none, none, none, none, none, none] []
    refine r_iload_n g dX0_place_0 rfl ?_
    refine r_aload_n g dX0_place_1 rfl ?_
    refine r_getf g fX0_56 hG.1.1 rfl dX0_place_2 ?_
    refine r_topi (y := (nI (gn s))) hC ?_
    refine r_icmp_ge 14 g dX0_place_5 (by decide) (fun c5 => ?_) (fun c5 => absurd (nI_le (by omega) (by omega)) c5)
    refine r_aload_n g dX0_place_14 rfl ?_
    refine r_lload_n g dX0_place_15 rfl ?_
    refine r_callV g kX0_106 (ok_g_keep _ _ _ _ hG.1 hbg) hG.1.1 rfl rfl rfl hnx hR (by decide) (Nat.zero_le _) (Nat.zero_le _) rfl rfl dX0_place_16 ?_
    rintro v9 h_1 nx9 ⟨rfl, rfl, C9, Lz9, GA9, hG9, rfl, rfl, hf9, h39⟩ -
    have hG := hG.then hG9
    have hd : d.length = gn s := by omega
    have hgt : psumF s d d.length (s.1 2) = gtot s d := by rw [hd]; exact psumF_gtot s d _
    rw [hgt] at hlt hG
    have he : accE s d 0 a = some (gtot s d, d) := by rw [accE_0, if_pos (hok.good hd), bst_ltA hlt]
    exact r_vret g hr (Nat.le_refl _) (Nat.le_refl _) dX0_place_19 ⟨rfl, rfl, _, GA9, hG, by rw [he]; exact ⟨rfl, Nat.le_of_lt (Nat.lt_of_lt_of_le hlt hAcc.2.1), fun b hb i hi => by cases hb; exact (h39 i (by omega)).trans (hTr i (by omega))⟩, fun kf k1 k2 k3 => hf9 kf k1, fun j hj => by rw [hf9 13 (by decide)], fun j hj => by rw [hf9 12 (by decide)]⟩
  | succ r ih =>
    intro d m a h0 C Lz GA hm hmr hC h9 hLd hTr hAcc hok hlt hLR hG hbg
    refine MetP_of (by decide +kernel) rfl ?_
    intro k g hr hR hcl hcg hcd hcb hcn hnx
    subst hcl; subst hcg; subst hcd; subst hcb
    subst hm
    have hG := GS.rf hG
    have hg6 := gn_le hA
    have h64 := g6_64 hg6
    show Sf k 0 0 h0 nx 0 [some (.ref gv), some (.ref xl), some (.int (nI d.length)), some (.long (lN (psumF s d d.length (s.1 2)))), none, none, none, none, none, none, none] []
    have loop : ∀ e c (Lz1 : Int64) (GA1 : Nat → Nat → Int32) (h : Hp), GS h0 h gv C Lz1 GA1 → c + e = 4 → AccG s (accC s d r a c) Lz1 GA1 → StG GA GA1 d.length → Sf k 0 0 h nx 23 [some (.ref gv), some (.ref xl), some (.int (nI d.length)), some (.long (lN (psumF s d d.length (s.1 2)))), none, some (.int (nI c)), none, none, none, none, none] [] := by
      intro e
      induction e with
      | zero =>
        intro c Lz1 GA1 h hG hc hAcc hSt
        have hc4 : c = 4 := by omega
        subst hc4
        refine r_iload g dX0_place_23 rfl ?_
        refine r_iconst (v := 4) g dX0_place_25 (by decide) ?_
        refine r_icmp_ge 155 g dX0_place_26 (by decide) (fun c26 => ?_) (fun c26 => absurd (show (4 : Int32) ≤ nI 4 by decide) c26)
        exact r_vret g hr (Nat.le_refl _) (Nat.le_refl _) dX0_place_155 ⟨rfl, rfl, Lz1, GA1, hG, by rw [← accC_4]; exact hAcc, hSt⟩
      | succ e ihe =>
        intro c Lz1 GA1 h hG hc hAcc hSt
        by_cases hcc : c < s.1 2
        · skip
          obtain ⟨hdl, LF, W, CO, FI, hL, hRO, hWF, hRK⟩ := hLR.2.2 c hcc
          have hcl := carsN_lt hA (gk s d.length)
          have hds : carsN s (gk s d.length) / 2 ^ c < 2 ^ 31 := Nat.lt_of_le_of_lt (Nat.div_le_self _ _) (by omega)
          have hS1 := setO_lt d c d.length
          have hS2 : 2 ^ (d.length + 1) ≤ 2 ^ gn s := Nat.pow_le_pow_right (by decide) (by omega)
          rw [Nat.pow_succ] at hS2
          refine r_iload g dX0_place_23 rfl ?_
          refine r_iconst (v := 4) g dX0_place_25 (by decide) ?_
          refine r_icmp_ge 155 g dX0_place_26 (by decide) (fun c26 => absurd c26 (nI_ge (b := 4) (by omega) (by decide))) (fun c26 => ?_)
          refine r_iload g dX0_place_29 rfl ?_
          refine r_aload_n g dX0_place_31 rfl ?_
          refine r_alen g (hLR.fr hG.2).1 (by decide) dX0_place_32 ?_
          refine r_icmp_ge 155 g dX0_place_33 (by decide) (fun c33 => absurd c33 (nI_ge (b := 4) (by omega) (by decide))) (fun c33 => ?_)
          refine r_aload_n g dX0_place_36 rfl ?_
          refine r_iload g dX0_place_37 rfl ?_
          refine r_aaldR (t := 0) (j := c) (v := (la c)) g (hLR.fr hG.2).1 (by decide) (if_pos hcc) rfl (by omega) (by decide) dX0_place_39 ?_
          refine r_astore g dX0_place_40 rfl rfl rfl ?_
          refine r_aload g dX0_place_42 rfl ?_
          refine r_ifnull g dX0_place_44 ?_
          refine r_aload_n g dX0_place_47 rfl ?_
          refine r_getf g fX0_38 hG.1.1 rfl dX0_place_48 ?_
          refine r_iload_n g dX0_place_51 rfl ?_
          refine rg_iald 9 (j := d.length) g hG.1 rfl rfl (show d.length < 6 by omega) dX0_place_52 ?_
          refine r_topi (y := (nI (carsN s (gk s d.length)))) ((congrFun (hSt.1 9 (by decide) (by decide) (by decide)) _).trans (h9 d.length (by omega))) ?_
          refine r_iload g dX0_place_53 rfl ?_
          refine r_ishr g dX0_place_55 ?_
          refine r_topi (y := (nI (carsN s (gk s d.length) / 2 ^ c))) (sh_n (by omega) (by omega)) ?_
          refine r_iconst (v := 1) g dX0_place_56 (by decide) ?_
          refine r_iand g dX0_place_57 ?_
          refine r_topi (y := (nI (carsN s (gk s d.length) / 2 ^ c % 2))) (and_1 hds) ?_
          refine r_if_eq 149 g dX0_place_58 (by decide) (fun c58 => ?_) (fun c58 => ?_)
          · skip
            have q := bt0 c58
            refine r_iinc (v := (nI (c + 1))) g dX0_place_149 rfl (nI_add c 1) rfl rfl ?_
            refine r_goto 23 g dX0_place_152 (by decide) ?_
            refine r_le (ls2 := [some (.ref gv), some (.ref xl), some (.int (nI d.length)), some (.long (lN (psumF s d d.length (s.1 2)))), none, some (.int (nI (c + 1))), none, none, none, none, none]) ⟨rfl, rfl, rfl, rfl, rfl, trivial⟩ ?_
            refine ihe (c + 1) Lz1 GA1 _ hG (by omega) ?_ hSt
            rw [accC_no (by omega) q]; exact hAcc
          · skip
            have q := bt1 c58
            have hsub1 := hok.sub (by omega) c
            have hsub2 : (setO d c d.length + 2 ^ d.length) &&& abl s c = setO d c d.length + 2 ^ d.length := by
              have z := (hok.snoc q).sub (by rw [List.length_append]; show d.length + 1 ≤ _; omega) c
              rw [show (d ++ [c]).length = d.length + 1 from by rw [List.length_append]; rfl, setO_snoc, if_pos rfl] at z
              exact z
            have hps := psumF_snoc s d c (s.1 2)
            rw [if_pos hcc, if_pos hcc] at hps
            have hpl := psumF_le s d d.length (s.1 2) hcc
            refine r_aload_n g dX0_place_61 rfl ?_
            refine r_getf g fX0_50 hG.1.1 rfl dX0_place_62 ?_
            refine r_iload g dX0_place_65 rfl ?_
            refine rg_iald 13 (j := c) g hG.1 rfl rfl (show c < 4 by omega) dX0_place_67 ?_
            refine r_topi (y := (nI (setO d c d.length))) ((hSt.2.1 c (by omega)).trans (hLd c (by omega))) ?_
            refine r_istore g dX0_place_68 rfl rfl rfl ?_
            refine r_iload g dX0_place_70 rfl ?_
            refine r_iconst (v := 1) g dX0_place_72 (by decide) ?_
            refine r_iload_n g dX0_place_73 rfl ?_
            refine r_ishl g dX0_place_74 ?_
            refine r_topi (y := (nI (2 ^ d.length))) (shl1 (by omega)) ?_
            refine r_ior g dX0_place_75 ?_
            refine r_topi (y := (nI (setO d c d.length + 2 ^ d.length))) (by rw [nI_or, or_pow (setO_lt d c _)]) ?_
            refine r_istore g dX0_place_76 rfl rfl rfl ?_
            refine r_lload_n g dX0_place_78 rfl ?_
            refine r_aload g dX0_place_79 rfl ?_
            refine r_getf g fX0_73 ((hG.2 _ (by omega)).trans hL) rfl dX0_place_81 ?_
            refine r_iload g dX0_place_84 rfl ?_
            refine r_pV g kX0_110 (ok_r_costOf _ _ _ _ (hRO.fr hG.2 (by omega)) (S := setO d c d.length) (by omega)) (hRO.fr hG.2 (by omega)).1 rfl rfl rfl hnx hR (by omega) (Nat.zero_le _) (Nat.zero_le _) rfl rfl dX0_place_86 ?_
            refine r_topl (y := (lN (gcst s c (setO d c d.length)))) (cost_at hRK (by omega) hsub1) ?_
            refine r_lsub g dX0_place_89 ?_
            refine r_topl (y := (lN (psumF s d d.length (s.1 2) - gcst s c (setO d c d.length)))) (lN_sub hpl) ?_
            refine r_aload g dX0_place_90 rfl ?_
            refine r_getf g fX0_73 ((hG.2 _ (by omega)).trans hL) rfl dX0_place_92 ?_
            refine r_iload g dX0_place_95 rfl ?_
            refine r_pV g kX0_110 (ok_r_costOf _ _ _ _ (hRO.fr hG.2 (by omega)) (S := setO d c d.length + 2 ^ d.length) (by omega)) (hRO.fr hG.2 (by omega)).1 rfl rfl rfl hnx hR (by omega) (Nat.zero_le _) (Nat.zero_le _) rfl rfl dX0_place_97 ?_
            refine r_topl (y := (lN (gcst s c (setO d c d.length + 2 ^ d.length)))) (cost_at hRK (by omega) hsub2) ?_
            refine r_ladd g dX0_place_100 ?_
            refine r_topl (y := (lN (psumF s (d ++ [c]) (d.length + 1) (s.1 2)))) ((lN_add _ _).trans (congrArg lN (by omega))) ?_
            refine r_lstore g dX0_place_101 rfl rfl rfl ?_
            refine r_lload g dX0_place_103 rfl ?_
            refine r_aload_n g dX0_place_105 rfl ?_
            refine r_getf g fX0_94 hG.1.1 rfl dX0_place_106 ?_
            refine r_topl (y := (lN (curA (accC s d r a c)))) hAcc.1 ?_
            refine r_lcmp g dX0_place_109 ?_
            refine r_if_ge 149 g dX0_place_110 (by decide) (fun c110 => ?_) (fun c110 => ?_)
            · skip
              have hpq : psumF s (d ++ [c]) (d.length + 1) (s.1 2) < 1152921504606846976 := by
                have z := psumF_lt hA (d := d ++ [c]) (r := r) (by rw [List.length_append]; show d.length + 1 + r = _; omega)
                rw [show (d ++ [c]).length = d.length + 1 from by rw [List.length_append]; rfl] at z
                exact z
              have q2 : ¬ psumF s (d ++ [c]) (d.length + 1) (s.1 2) < curA (accC s d r a c) := fun z => absurd ((lg_cmp_ge _ _).mp c110) (by rw [pk_lLE (by have := hAcc.2.1; omega) (by omega)]; omega)
              refine r_iinc (v := (nI (c + 1))) g dX0_place_149 rfl (nI_add c 1) rfl rfl ?_
              refine r_goto 23 g dX0_place_152 (by decide) ?_
              refine r_le (ls2 := [some (.ref gv), some (.ref xl), some (.int (nI d.length)), some (.long (lN (psumF s d d.length (s.1 2)))), none, some (.int (nI (c + 1))), none, none, none, none, none]) ⟨rfl, rfl, rfl, rfl, rfl, trivial⟩ ?_
              refine ihe (c + 1) Lz1 GA1 _ hG (by omega) ?_ hSt
              rw [accC_pr hA (by omega) q2 hpq]; exact hAcc
            · skip
              have hpq : psumF s (d ++ [c]) (d.length + 1) (s.1 2) < 1152921504606846976 := by
                have z := psumF_lt hA (d := d ++ [c]) (r := r) (by rw [List.length_append]; show d.length + 1 + r = _; omega)
                rw [show (d ++ [c]).length = d.length + 1 from by rw [List.length_append]; rfl] at z
                exact z
              have q2 : psumF s (d ++ [c]) (d.length + 1) (s.1 2) < curA (accC s d r a c) := Nat.lt_of_not_le (fun z => c110 ((lg_cmp_ge _ _).mpr ((pk_lLE (by have := hAcc.2.1; omega) (by omega)).mpr z)))
              refine r_aload_n g dX0_place_113 rfl ?_
              refine r_getf g fX0_50 hG.1.1 rfl dX0_place_114 ?_
              refine r_iload g dX0_place_117 rfl ?_
              refine r_iload g dX0_place_119 rfl ?_
              refine rg_iast 13 (j := c) g hG hbg rfl rfl (show c < 4 by omega) dX0_place_121 ?_
              intro h_2 hG
              refine r_aload_n g dX0_place_122 rfl ?_
              refine r_getf g fX0_47 hG.1.1 rfl dX0_place_123 ?_
              refine r_iload_n g dX0_place_126 rfl ?_
              refine r_iload g dX0_place_127 rfl ?_
              refine rg_iast 12 (j := d.length) g hG hbg rfl rfl (show d.length < 6 by omega) dX0_place_129 ?_
              intro h_3 hG
              refine r_aload_n g dX0_place_130 rfl ?_
              refine r_aload_n g dX0_place_131 rfl ?_
              refine r_iload_n g dX0_place_132 rfl ?_
              refine r_iconst (v := 1) g dX0_place_133 (by decide) ?_
              refine r_iadd g dX0_place_134 ?_
              refine r_topi (y := (nI (d.length + 1))) (nI_add d.length 1) ?_
              refine r_lload g dX0_place_135 rfl ?_
              have hl9 : (d ++ [c]).length = d.length + 1 := by rw [List.length_append]; rfl
              refine r_callS g kX0_98 (ih (d ++ [c]) (d.length + 1) (accC s d r a c) _ C Lz1 ((upA (upA GA1 13 (upd (GA1 13) c (nI (setO d c d.length + 2 ^ d.length)))) 12 (upd ((upA GA1 13 (upd (GA1 13) c (nI (setO d c d.length + 2 ^ d.length)))) 12) d.length (nI c)))) hl9 (by omega) hC (fun i hi => ?_) (fun c2 hc2 => ?_) (fun i hi => ?_) ⟨hAcc.1, hAcc.2.1, fun b hb i hi => ?_⟩ (hok.snoc q) q2 (hLR.fr hG.2) hG.1 hbg) rfl rfl hnx hR (by omega) (Nat.zero_le _) (Nat.zero_le _) rfl rfl dX0_place_137 ?_
              · rw [upA_ne (by decide), upA_ne (by decide)]; exact (congrFun (hSt.1 9 (by decide) (by decide) (by decide)) _).trans (h9 i hi)
              · rw [upA_ne (by decide), upA_eq, setO_snoc]
                by_cases e9 : c = c2
                · subst e9; rw [if_pos rfl]; exact pk_us
                · rw [if_neg e9]; exact (pk_un (fun z => e9 z.symm)).trans ((hSt.2.1 c2 hc2).trans (hLd c2 hc2))
              · rw [upA_eq]
                by_cases e9 : i = d.length
                · subst e9
                  have z := app_at d [] c
                  rw [List.append_nil] at z
                  rw [z]; exact pk_us
                · rw [pk_un e9, upA_ne (by decide), List.getD_eq_getElem?_getD, List.getElem?_append_left (by omega), ← List.getD_eq_getElem?_getD]; exact (hSt.2.2 i (by omega)).trans (hTr i (by omega))
              · rw [upA_ne (by decide), upA_ne (by decide)]; exact hAcc.2.2 b hb i hi
              rintro v9 h_4 nx9 ⟨rfl, rfl, Lz9, GA9, hG9, hAcc9, hSt9⟩ -
              have hG := hG.then hG9
              refine r_aload_n g dX0_place_140 rfl ?_
              refine r_getf g fX0_50 hG.1.1 rfl dX0_place_141 ?_
              refine r_iload g dX0_place_144 rfl ?_
              refine r_iload g dX0_place_146 rfl ?_
              refine rg_iast 13 (j := c) g hG hbg rfl rfl (show c < 4 by omega) dX0_place_148 ?_
              intro h_5 hG
              refine r_iinc (v := (nI (c + 1))) g dX0_place_149 rfl (nI_add c 1) rfl rfl ?_
              refine r_goto 23 g dX0_place_152 (by decide) ?_
              refine r_le (ls2 := [some (.ref gv), some (.ref xl), some (.int (nI d.length)), some (.long (lN (psumF s d d.length (s.1 2)))), none, some (.int (nI (c + 1))), none, none, none, none, none]) ⟨rfl, rfl, rfl, rfl, rfl, trivial⟩ ?_
              refine ihe (c + 1) Lz9 _ _ hG (by omega) ⟨hAcc9.1, hAcc9.2.1, fun b hb i hi => by rw [upA_ne (by decide)]; exact hAcc9.2.2 b hb i hi⟩ ⟨fun kf k1 k2 k3 => ?_, fun j hj => ?_, fun j hj => ?_⟩
              · rw [upA_ne k3, hSt9.1 kf k1 k2 k3, upA_ne k2, upA_ne k3]; exact hSt.1 kf k1 k2 k3
              · rw [upA_eq]
                by_cases e9 : j = c
                · subst e9; rw [pk_us]; exact (hLd j hj).symm
                · rw [pk_un e9, hSt9.2.1 j hj, upA_ne (by decide), upA_eq, pk_un e9]; exact hSt.2.1 j hj
              · rw [upA_ne (by decide), hSt9.2.2 j (by omega), upA_eq, pk_un (by omega), upA_ne (by decide)]; exact hSt.2.2 j hj
        · skip
          refine r_iload g dX0_place_23 rfl ?_
          refine r_iconst (v := 4) g dX0_place_25 (by decide) ?_
          refine r_icmp_ge 155 g dX0_place_26 (by decide) (fun c26 => absurd c26 (nI_ge (b := 4) (by omega) (by decide))) (fun c26 => ?_)
          refine r_iload g dX0_place_29 rfl ?_
          refine r_aload_n g dX0_place_31 rfl ?_
          refine r_alen g (hLR.fr hG.2).1 (by decide) dX0_place_32 ?_
          refine r_icmp_ge 155 g dX0_place_33 (by decide) (fun c33 => absurd c33 (nI_ge (b := 4) (by omega) (by decide))) (fun c33 => ?_)
          refine r_aload_n g dX0_place_36 rfl ?_
          refine r_iload g dX0_place_37 rfl ?_
          refine r_aaldN (t := 0) (j := c) g (hLR.fr hG.2).1 (by decide) (if_neg hcc) rfl (by omega) (by decide) dX0_place_39 ?_
          refine r_astoreN g dX0_place_40 rfl rfl rfl ?_
          refine r_aloadN g dX0_place_42 rfl ?_
          refine r_ifnullN 149 g dX0_place_44 (by decide) ?_
          refine r_iinc (v := (nI (c + 1))) g dX0_place_149 rfl (nI_add c 1) rfl rfl ?_
          refine r_goto 23 g dX0_place_152 (by decide) ?_
          refine r_le (ls2 := [some (.ref gv), some (.ref xl), some (.int (nI d.length)), some (.long (lN (psumF s d d.length (s.1 2)))), none, some (.int (nI (c + 1))), none, none, none, none, none]) ⟨rfl, rfl, rfl, rfl, rfl, trivial⟩ ?_
          refine ihe (c + 1) Lz1 GA1 _ hG (by omega) ?_ hSt
          rw [accC_no (by omega) (by
            cases hb : (carsN s (gk s d.length)).testBit c with
            | false => rfl
            | true => exact absurd (carsN_bit hb) hcc)]
          exact hAcc
    refine r_iload_n g dX0_place_0 rfl ?_
    refine r_aload_n g dX0_place_1 rfl ?_
    refine r_getf g fX0_56 hG.1.1 rfl dX0_place_2 ?_
    refine r_topi (y := (nI (gn s))) hC ?_
    refine r_icmp_ge 14 g dX0_place_5 (by decide) (fun c5 => absurd c5 (nI_ge (by omega) (by omega))) (fun c5 => ?_)
    refine r_iload_n g dX0_place_8 rfl ?_
    refine r_bipush (v := 6) g dX0_place_9 (by decide) ?_
    refine r_icmp_lt 20 g dX0_place_11 (by decide) (fun c11 => ?_) (fun c11 => absurd (nI_lt (b := 6) (by omega) (by decide)) c11)
    refine r_iconst (v := 0) g dX0_place_20 (by decide) ?_
    refine r_istore g dX0_place_21 rfl rfl rfl ?_
    exact loop 4 0 Lz GA _ hG (Nat.zero_add _) hAcc StG.rf
