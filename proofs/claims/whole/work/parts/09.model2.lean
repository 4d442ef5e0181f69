theorem oth_t1 {s : AS} {k c i : Nat} (h : othB s k c i = true) : (1 : Int32) = b2 (othB s k c (i + 1)) := by
  unfold othB; rw [h]; rfl
theorem oth_t2 {s : AS} {k c i : Nat} (h1 : i ≠ k) (h2 : s.2.2 i 3 = 1) (h3 : s.2.2 i 5 = c) : (1 : Int32) = b2 (othB s k c (i + 1)) := by
  unfold othB isOp; rw [decide_eq_true h1, decide_eq_true h2, decide_eq_true h3, Bool.true_and, Bool.true_and, Bool.or_true]; rfl
theorem oth_f {s : AS} {k c i : Nat} (h : othB s k c i = false) (h2 : i = k ∨ ¬ s.2.2 i 3 = 1 ∨ ¬ s.2.2 i 5 = c) : (0 : Int32) = b2 (othB s k c (i + 1)) := by
  unfold othB isOp; rw [h, Bool.false_or]
  rcases h2 with h2 | h2 | h2
  · rw [decide_eq_false (p := i ≠ k) (fun z => z h2)]; rfl
  · rw [decide_eq_false h2, Bool.and_false]; rfl
  · rw [decide_eq_false h2, Bool.and_false]; rfl
theorem beI_lt {a : Nat} (h : a < 4) : nI a = beI a := (if_neg (by omega)).symm
set_option maxHeartbeats 4000000 in
set_option maxRecDepth 100000 in
theorem ok_m_begin (l : Launch) (G : Nat → ClassId) (D : va_G) (base : Nat) {h : Hp} {nx m : Nat} {F : Nat → Int32} {A : Nat → Nat → Int32} {B : Nat → Int64} (s : AS) (hA : AI s) (hI : MI F A s) (hM : MO h m F A B) (hbm : base ≤ m) (x c : Int32) : MetP l G D base miX5_begin 2 0 0 [.ref m, .int x, .int c] h nx (KP h nx m A B false (sBegin s x c)) := by
  refine MetP_of (by decide +kernel) rfl ?_
  intro k g hr hR hcl hcg hcd hcb hcn hnx
  subst hcl; subst hcg; subst hcd; subst hcb
  have hM := MS.rf hM
  obtain ⟨⟨hn1, hn2⟩, ht, hnc, hN, -⟩ := id hA
  show Sf k 0 0 h nx 0 [some (.ref m), some (.int x), some (.int c), none, none] []
  refine r_aload_n g dX5_begin_0 rfl ?_
  refine r_aload_n g dX5_begin_1 rfl ?_
  refine r_iload_n g dX5_begin_2 rfl ?_
  refine r_pV g kX5_115 (ok_m_isOpenCall _ _ _ _ s hA hI hM.1 x) hM.1.1 rfl rfl rfl hnx hR (by decide) (Nat.zero_le _) (Nat.zero_le _) rfl rfl dX5_begin_3 ?_
  refine r_if_eq 22 g dX5_begin_6 (by decide) (fun c6 => ?_) (fun c6 => ?_)
  · skip
    have q := b2_f c6
    refine r_iconst (v := 1) g dX5_begin_22 (by decide) ?_
    refine r_goto 27 g dX5_begin_23 (by decide) ?_
    refine rm_put (F' := upd F 0 1) g hM hbm fX5_88 (by decide) rfl dX5_begin_27 ?_
    intro h_2 hM
    refine r_aload_n g dX5_begin_30 rfl ?_
    refine rm_get g hM fX5_88 rfl dX5_begin_31 ?_
    refine r_topi (y := 1) rfl ?_
    refine r_if_le 39 g dX5_begin_34 (by decide) (fun c34 => absurd c34 (by decide)) (fun c34 => ?_)
    refine r_iconst (v := 0) g dX5_begin_37 (by decide) ?_
    have hs : sBegin s x c = (1, 0, s) := by unfold sBegin; rw [if_pos (by first | (rw [q]; rfl) | (rw [q, decide_eq_false c11, qc]; rfl))]
    exact r_zret g hr (Nat.le_refl _) (Nat.le_refl _) dX5_begin_38 rfl (KP_i (c := 1) hM (by rw [hs]; exact hI) rfl (by rw [hs]; rfl) (fun z => by rw [hs] at z; cases z) SameG.rf)
  · skip
    have q := b2_t c6
    refine r_iload_n g dX5_begin_9 rfl ?_
    refine r_iconst (v := (-1)) g dX5_begin_10 (by decide) ?_
    refine r_icmp_eq 26 g dX5_begin_11 (by decide) (fun c11 => ?_) (fun c11 => ?_)
    · skip
      refine r_iconst (v := 0) g dX5_begin_26 (by decide) ?_
      refine rm_put (F' := upd F 0 0) g hM hbm fX5_88 (by decide) rfl dX5_begin_27 ?_
      intro h_4 hM
      refine r_aload_n g dX5_begin_30 rfl ?_
      refine rm_get g hM fX5_88 rfl dX5_begin_31 ?_
      refine r_topi (y := 0) rfl ?_
      refine r_if_le 39 g dX5_begin_34 (by decide) (fun c34 => ?_) (fun c34 => absurd c34 (by decide))
      refine r_iload_n g dX5_begin_39 rfl ?_
      refine r_iconst (v := (-1)) g dX5_begin_40 (by decide) ?_
      refine r_icmp_eq 116 g dX5_begin_41 (by decide) (fun c41 => ?_) (fun c41 => absurd c11 c41)
      have hci := opB_at hA q
      refine r_aload_n g dX5_begin_116 rfl ?_
      refine rm_get g hM fX5_44 rfl dX5_begin_117 ?_
      refine r_iload_n g dX5_begin_120 rfl ?_
      refine r_iload_n g dX5_begin_121 rfl ?_
      refine rm_iast 16 (j := iN x) g hM hbm rfl (by decide) rfl hci.2.1 (show iN x < 400 by omega) dX5_begin_122 ?_
      intro h_5 hM
      refine r_iconst (v := 1) g dX5_begin_123 (by decide) ?_
      have hs : sBegin s x c = (0, 1, (s.1, s.2.1, up2 s.2.2 (iN x) 5 4)) := by unfold sBegin; rw [if_neg (by rw [q, decide_eq_true c11, Bool.true_or]; decide), if_pos c11]
      exact r_zret g hr (Nat.le_refl _) (Nat.le_refl _) dX5_begin_124 rfl (KP_i (c := 0) hM (by rw [hs]; exact MI_begin hI c11) rfl (by rw [hs]; rfl) (fun _ => by rw [hs]) (SameG.up SameG.rf (by decide)))
    · skip
      refine r_aload_n g dX5_begin_14 rfl ?_
      refine r_iload_n g dX5_begin_15 rfl ?_
      refine r_pV g kX5_108 (ok_m_isCar _ _ _ _ hM.1 hI.2.2.1 (by omega) c) hM.1.1 rfl rfl rfl hnx hR (by decide) (Nat.zero_le _) (Nat.zero_le _) rfl rfl dX5_begin_16 ?_
      refine r_if_ne 26 g dX5_begin_19 (by decide) (fun c19 => ?_) (fun c19 => ?_)
      · skip
        have qc := b2_t c19
        refine r_iconst (v := 0) g dX5_begin_26 (by decide) ?_
        refine rm_put (F' := upd F 0 0) g hM hbm fX5_88 (by decide) rfl dX5_begin_27 ?_
        intro h_7 hM
        refine r_aload_n g dX5_begin_30 rfl ?_
        refine rm_get g hM fX5_88 rfl dX5_begin_31 ?_
        refine r_topi (y := 0) rfl ?_
        refine r_if_le 39 g dX5_begin_34 (by decide) (fun c34 => ?_) (fun c34 => absurd c34 (by decide))
        refine r_iload_n g dX5_begin_39 rfl ?_
        refine r_iconst (v := (-1)) g dX5_begin_40 (by decide) ?_
        refine r_icmp_eq 116 g dX5_begin_41 (by decide) (fun c41 => absurd c41 c11) (fun c41 => ?_)
        have hcc := inB_at (by omega) qc
        have hci := opB_at hA q
        have loop : ∀ d i, i + d = s.1 3 → Sf k 0 0 h_7 nx 49 [some (.ref m), some (.int x), some (.int c), some (.int (b2 (othB s (iN x) (iN c) i))), some (.int (nI i))] [] := by
          intro d
          induction d with
          | zero =>
            intro i hi
            have hi2 : i = s.1 3 := by omega
            refine r_iload g dX5_begin_49 rfl ?_
            refine r_aload_n g dX5_begin_51 rfl ?_
            refine rm_get g hM fX5_98 rfl dX5_begin_52 ?_
            refine r_topi (y := (nI (s.1 3))) hI.2.2.2.1 ?_
            refine r_icmp_ge 101 g dX5_begin_55 (by decide) (fun c55 => ?_) (fun c55 => absurd (nI_le (by omega) (by omega)) c55)
            refine r_iload_n g dX5_begin_101 rfl ?_
            refine r_if_ne 114 g dX5_begin_102 (by decide) (fun c102 => ?_) (fun c102 => ?_)
            · skip
              have qo := b2_t c102
              rw [hi2] at qo
              refine r_iconst (v := 0) g dX5_begin_114 (by decide) ?_
              have hs : sBegin s x c = (0, 0, s) := by unfold sBegin; rw [if_neg (by rw [q, decide_eq_false c11, qc]; decide), if_neg c11, if_pos (by first | (rw [qo]; rfl) | (rw [qo, qw]; rfl))]
              exact r_zret g hr (Nat.le_refl _) (Nat.le_refl _) dX5_begin_115 rfl (KP_i (c := 0) hM (by rw [hs]; exact hI) rfl (by rw [hs]; rfl) (fun _ => by rw [hs]) SameG.rf)
            · skip
              have qo := b2_f c102
              rw [hi2] at qo
              refine r_aload_n g dX5_begin_105 rfl ?_
              refine r_iload_n g dX5_begin_106 rfl ?_
              refine r_topi (y := (nI (iN c))) hcc.2 ?_
              refine r_iload_n g dX5_begin_107 rfl ?_
              refine r_topi (y := (nI (iN x))) hci.2.1 ?_
              refine r_pV g kX5_118 (ok_m_isWithin _ _ _ _ s hA (hI.F0 0) hM.1 (c := iN c) (j := iN x) hcc.1 hci.1) hM.1.1 rfl rfl rfl hnx hR (by decide) (Nat.zero_le _) (Nat.zero_le _) rfl rfl dX5_begin_108 ?_
              refine r_if_ne 116 g dX5_begin_111 (by decide) (fun c111 => ?_) (fun c111 => ?_)
              · skip
                have qw := b2_t c111
                refine r_aload_n g dX5_begin_116 rfl ?_
                refine rm_get g hM fX5_44 rfl dX5_begin_117 ?_
                refine r_iload_n g dX5_begin_120 rfl ?_
                refine r_iload_n g dX5_begin_121 rfl ?_
                refine rm_iast 16 (j := iN x) g hM hbm rfl (by decide) rfl hci.2.1 (show iN x < 400 by omega) dX5_begin_122 ?_
                intro h_8 hM
                refine r_iconst (v := 1) g dX5_begin_123 (by decide) ?_
                have hs : sBegin s x c = (0, 1, (s.1, s.2.1, up2 s.2.2 (iN x) 5 (iN c))) := by unfold sBegin; rw [if_neg (by rw [q, decide_eq_false c11, qc]; decide), if_neg c11, if_neg (by rw [qo, qw]; decide)]
                exact r_zret g hr (Nat.le_refl _) (Nat.le_refl _) dX5_begin_124 rfl (KP_i (c := 0) hM (by rw [hs]; exact MI_begin hI (hcc.2.trans (beI_lt (by omega)))) rfl (by rw [hs]; rfl) (fun _ => by rw [hs]) (SameG.up SameG.rf (by decide)))
              · skip
                have qw := b2_f c111
                refine r_iconst (v := 0) g dX5_begin_114 (by decide) ?_
                have hs : sBegin s x c = (0, 0, s) := by unfold sBegin; rw [if_neg (by rw [q, decide_eq_false c11, qc]; decide), if_neg c11, if_pos (by first | (rw [qo]; rfl) | (rw [qo, qw]; rfl))]
                exact r_zret g hr (Nat.le_refl _) (Nat.le_refl _) dX5_begin_115 rfl (KP_i (c := 0) hM (by rw [hs]; exact hI) rfl (by rw [hs]; rfl) (fun _ => by rw [hs]) SameG.rf)
          | succ d ih =>
            intro i hi
            have hkk := hA.2.2.2.2.2.1 i (by omega)
            refine r_iload g dX5_begin_49 rfl ?_
            refine r_aload_n g dX5_begin_51 rfl ?_
            refine rm_get g hM fX5_98 rfl dX5_begin_52 ?_
            refine r_topi (y := (nI (s.1 3))) hI.2.2.2.1 ?_
            refine r_icmp_ge 101 g dX5_begin_55 (by decide) (fun c55 => absurd c55 (nI_ge (by omega) (by omega))) (fun c55 => ?_)
            refine r_iload_n g dX5_begin_58 rfl ?_
            refine r_if_ne 89 g dX5_begin_59 (by decide) (fun c59 => ?_) (fun c59 => ?_)
            · skip
              have qo := b2_t c59
              refine r_iconst (v := 1) g dX5_begin_89 (by decide) ?_
              refine r_topi (y := (b2 (othB s (iN x) (iN c) (i + 1)))) (by first | exact oth_t1 qo | exact oth_t2 q1 q2 q5) ?_
              refine r_goto 94 g dX5_begin_90 (by decide) ?_
              refine r_istore_n g dX5_begin_94 rfl rfl rfl ?_
              refine r_iinc (v := (nI (i + 1))) g dX5_begin_95 rfl (nI_add i 1) rfl rfl ?_
              refine r_goto 49 g dX5_begin_98 (by decide) ?_
              exact ih (i + 1) (by omega)
            · skip
              have qo := b2_f c59
              refine r_iload g dX5_begin_62 rfl ?_
              refine r_iload_n g dX5_begin_64 rfl ?_
              refine r_topi (y := (nI (iN x))) hci.2.1 ?_
              refine r_icmp_eq 93 g dX5_begin_65 (by decide) (fun c65 => ?_) (fun c65 => ?_)
              · skip
                have q1 := (nI_c (by omega) (by omega)).mp c65
                refine r_iconst (v := 0) g dX5_begin_93 (by decide) ?_
                refine r_topi (y := (b2 (othB s (iN x) (iN c) (i + 1)))) (by first | exact oth_f qo (Or.inr (Or.inr q5)) | exact oth_f qo (Or.inr (Or.inl q2)) | exact oth_f qo (Or.inl q1)) ?_
                refine r_istore_n g dX5_begin_94 rfl rfl rfl ?_
                refine r_iinc (v := (nI (i + 1))) g dX5_begin_95 rfl (nI_add i 1) rfl rfl ?_
                refine r_goto 49 g dX5_begin_98 (by decide) ?_
                exact ih (i + 1) (by omega)
              · skip
                have q1 : ¬ i = iN x := fun z => c65 (by rw [z])
                refine r_aload_n g dX5_begin_68 rfl ?_
                refine rm_get g hM fX5_38 rfl dX5_begin_69 ?_
                refine r_iload g dX5_begin_72 rfl ?_
                refine rm_zald 14 (j := i) g hM rfl rfl rfl (show i < 400 by omega) dX5_begin_74 ?_
                refine r_topi (y := (nI (s.2.2 i 3))) (hI.2.2.2.2.2.2.1 i (by omega)).2.2.2.1 ?_
                refine r_if_eq 93 g dX5_begin_75 (by decide) (fun c75 => ?_) (fun c75 => ?_)
                · skip
                  have q2 : ¬ s.2.2 i 3 = 1 := by have := eq0 (by omega) c75; omega
                  refine r_iconst (v := 0) g dX5_begin_93 (by decide) ?_
                  refine r_topi (y := (b2 (othB s (iN x) (iN c) (i + 1)))) (by first | exact oth_f qo (Or.inr (Or.inr q5)) | exact oth_f qo (Or.inr (Or.inl q2)) | exact oth_f qo (Or.inl q1)) ?_
                  refine r_istore_n g dX5_begin_94 rfl rfl rfl ?_
                  refine r_iinc (v := (nI (i + 1))) g dX5_begin_95 rfl (nI_add i 1) rfl rfl ?_
                  refine r_goto 49 g dX5_begin_98 (by decide) ?_
                  exact ih (i + 1) (by omega)
                · skip
                  have q2 := nz1 (by omega) c75
                  refine r_aload_n g dX5_begin_78 rfl ?_
                  refine rm_get g hM fX5_44 rfl dX5_begin_79 ?_
                  refine r_iload g dX5_begin_82 rfl ?_
                  refine rm_iald 16 (j := i) g hM rfl (by decide) rfl rfl (show i < 400 by omega) dX5_begin_84 ?_
                  refine r_topi (y := (beI (s.2.2 i 5))) (hI.2.2.2.2.2.2.1 i (by omega)).2.2.2.2.2 ?_
                  refine r_iload_n g dX5_begin_85 rfl ?_
                  refine r_topi (y := (nI (iN c))) hcc.2 ?_
                  refine r_icmp_ne 93 g dX5_begin_86 (by decide) (fun c86 => ?_) (fun c86 => ?_)
                  · skip
                    have q5 : ¬ s.2.2 i 5 = iN c := fun z => c86 ((beI_c (by omega) (by omega)).mpr z)
                    refine r_iconst (v := 0) g dX5_begin_93 (by decide) ?_
                    refine r_topi (y := (b2 (othB s (iN x) (iN c) (i + 1)))) (by first | exact oth_f qo (Or.inr (Or.inr q5)) | exact oth_f qo (Or.inr (Or.inl q2)) | exact oth_f qo (Or.inl q1)) ?_
                    refine r_istore_n g dX5_begin_94 rfl rfl rfl ?_
                    refine r_iinc (v := (nI (i + 1))) g dX5_begin_95 rfl (nI_add i 1) rfl rfl ?_
                    refine r_goto 49 g dX5_begin_98 (by decide) ?_
                    exact ih (i + 1) (by omega)
                  · skip
                    have q5 := (beI_c (by omega) (by omega)).mp c86
                    refine r_iconst (v := 1) g dX5_begin_89 (by decide) ?_
                    refine r_topi (y := (b2 (othB s (iN x) (iN c) (i + 1)))) (by first | exact oth_t1 qo | exact oth_t2 q1 q2 q5) ?_
                    refine r_goto 94 g dX5_begin_90 (by decide) ?_
                    refine r_istore_n g dX5_begin_94 rfl rfl rfl ?_
                    refine r_iinc (v := (nI (i + 1))) g dX5_begin_95 rfl (nI_add i 1) rfl rfl ?_
                    refine r_goto 49 g dX5_begin_98 (by decide) ?_
                    exact ih (i + 1) (by omega)
        refine r_iconst (v := 0) g dX5_begin_44 (by decide) ?_
        refine r_istore_n g dX5_begin_45 rfl rfl rfl ?_
        refine r_iconst (v := 0) g dX5_begin_46 (by decide) ?_
        refine r_istore g dX5_begin_47 rfl rfl rfl ?_
        exact loop (s.1 3) 0 (by omega)
      · skip
        have qc := b2_f c19
        refine r_iconst (v := 1) g dX5_begin_22 (by decide) ?_
        refine r_goto 27 g dX5_begin_23 (by decide) ?_
        refine rm_put (F' := upd F 0 1) g hM hbm fX5_88 (by decide) rfl dX5_begin_27 ?_
        intro h_10 hM
        refine r_aload_n g dX5_begin_30 rfl ?_
        refine rm_get g hM fX5_88 rfl dX5_begin_31 ?_
        refine r_topi (y := 1) rfl ?_
        refine r_if_le 39 g dX5_begin_34 (by decide) (fun c34 => absurd c34 (by decide)) (fun c34 => ?_)
        refine r_iconst (v := 0) g dX5_begin_37 (by decide) ?_
        have hs : sBegin s x c = (1, 0, s) := by unfold sBegin; rw [if_pos (by first | (rw [q]; rfl) | (rw [q, decide_eq_false c11, qc]; rfl))]
        exact r_zret g hr (Nat.le_refl _) (Nat.le_refl _) dX5_begin_38 rfl (KP_i (c := 1) hM (by rw [hs]; exact hI) rfl (by rw [hs]; rfl) (fun z => by rw [hs] at z; cases z) SameG.rf)
/-- the reference holds the giving r -/
def MG (A : Nat → Nat → Int32) (r : GR) : Prop := (∀ j, j < 400 → A 18 j = beI (r.1 j 0) ∧ r.1 j 0 ≤ 4 ∧ (r.1 j 0 ≠ 4 → A 19 j = nI (r.1 j 1) ∧ A 20 j = nI (r.1 j 2) ∧ A 21 j = nI (r.1 j 3))) ∧
  (∀ c, c < 4 → A 23 c = nI (r.2.2 c) ∧ r.2.2 c ≤ 6 ∧ ∀ i, i < r.2.2 c → A 22 (6 * c + i) = nI (r.2.1 c i))
theorem MG.same {A A' : Nat → Nat → Int32} {r : GR} (h : MG A r) (hs : SameG A A') : MG A' r := by
  unfold MG
  rw [hs 18 (by decide) (by decide), hs 19 (by decide) (by decide), hs 20 (by decide) (by decide), hs 21 (by decide) (by decide), hs 22 (by decide) (by decide), hs 23 (by decide) (by decide)]
  exact h
theorem nn_at {x : Int32} (h : 0 ≤ x) : x = nI (iN x) ∧ iN x < 2 ^ 31 := by
  obtain ⟨j, hj, rfl⟩ := nI_of (x := x) (fun q => by rw [Int32.lt_iff_toInt_lt] at q; rw [Int32.le_iff_toInt_le] at h; omega)
  rw [iN_nI hj]; exact ⟨rfl, hj⟩
set_option maxHeartbeats 4000000 in
set_option maxRecDepth 100000 in
theorem ok_m_wasCall (l : Launch) (G : Nat → ClassId) (D : va_G) (base : Nat) {h : Hp} {nx m : Nat} {F : Nat → Int32} {A : Nat → Nat → Int32} {B : Nat → Int64} (s : AS) (hA : AI s) (hI : MI F A s) (hM : MO h m F A B) (hbm : base ≤ m) (x : Int32) : MetP l G D base miX5_wasCall 1 0 0 [.ref m, .int x] h nx (KM (some (.int (b2 (inB x (s.1 3))))) h m (upd F 0 (b2 (!inB x (s.1 3)))) A B nx) := by
  refine MetP_of (by decide +kernel) rfl ?_
  intro k g hr hR hcl hcg hcd hcb hcn hnx
  subst hcl; subst hcg; subst hcd; subst hcb
  have hM := MS.rf hM
  obtain ⟨⟨hn1, hn2⟩, ht, hnc, hN, -⟩ := id hA
  show Sf k 0 0 h nx 0 [some (.ref m), some (.int x)] []
  refine r_aload_n g dX5_wasCall_0 rfl ?_
  refine r_iload_n g dX5_wasCall_1 rfl ?_
  refine r_iconst (v := 0) g dX5_wasCall_2 (by decide) ?_
  refine r_aload_n g dX5_wasCall_3 rfl ?_
  refine rm_get g hM fX5_98 rfl dX5_wasCall_4 ?_
  refine r_topi (y := (nI (s.1 3))) hI.2.2.2.1 ?_
  refine r_iconst (v := 1) g dX5_wasCall_7 (by decide) ?_
  refine r_isub g dX5_wasCall_8 ?_
  refine r_pS g kX5_91 (ok_m_isIn _ _ _ _ x 0 ((nI (s.1 3)) - 1)) rfl rfl hnx hR (by decide) (Nat.zero_le _) (Nat.zero_le _) rfl rfl dX5_wasCall_9 ?_
  refine r_topi (y := (b2 (inB x (s.1 3)))) (by rw [inB_sub (by omega)]) ?_
  refine r_if_eq 19 g dX5_wasCall_12 (by decide) (fun c12 => ?_) (fun c12 => ?_)
  · skip
    have q := b2_f c12
    refine r_iconst (v := 1) g dX5_wasCall_19 (by decide) ?_
    refine rm_put (F' := upd F 0 1) g hM hbm fX5_88 (by decide) rfl dX5_wasCall_20 ?_
    intro h_2 hM
    refine r_aload_n g dX5_wasCall_23 rfl ?_
    refine rm_get g hM fX5_88 rfl dX5_wasCall_24 ?_
    refine r_topi (y := 1) rfl ?_
    refine r_if_ne 34 g dX5_wasCall_27 (by decide) (fun c27 => ?_) (fun c27 => absurd c27 (by decide))
    refine r_iconst (v := 0) g dX5_wasCall_34 (by decide) ?_
    exact r_zret g hr (Nat.le_refl _) (Nat.le_refl _) dX5_wasCall_35 rfl ⟨by rw [q]; rfl, rfl, by rw [q]; exact hM⟩
  · skip
    have q := b2_t c12
    refine r_iconst (v := 0) g dX5_wasCall_15 (by decide) ?_
    refine r_goto 20 g dX5_wasCall_16 (by decide) ?_
    refine rm_put (F' := upd F 0 0) g hM hbm fX5_88 (by decide) rfl dX5_wasCall_20 ?_
    intro h_4 hM
    refine r_aload_n g dX5_wasCall_23 rfl ?_
    refine rm_get g hM fX5_88 rfl dX5_wasCall_24 ?_
    refine r_topi (y := 0) rfl ?_
    refine r_if_ne 34 g dX5_wasCall_27 (by decide) (fun c27 => absurd c27 (by decide)) (fun c27 => ?_)
    refine r_iconst (v := 1) g dX5_wasCall_30 (by decide) ?_
    refine r_goto 35 g dX5_wasCall_31 (by decide) ?_
    exact r_zret g hr (Nat.le_refl _) (Nat.le_refl _) dX5_wasCall_35 rfl ⟨by rw [q]; rfl, rfl, by rw [q]; exact hM⟩
set_option maxHeartbeats 4000000 in
set_option maxRecDepth 100000 in
theorem ok_m_carOf (l : Launch) (G : Nat → ClassId) (D : va_G) (base : Nat) {h : Hp} {nx m : Nat} {F : Nat → Int32} {A : Nat → Nat → Int32} {B : Nat → Int64} (s : AS) (hA : AI s) (hI : MI F A s) (hM : MO h m F A B) (hbm : base ≤ m) (r : GR) (hg : MG A r) (x : Int32) : MetP l G D base miX5_carOf 2 0 0 [.ref m, .int x] h nx (KP h nx m A B false ((sCarOf s r x).1, (sCarOf s r x).2, s)) := by
  refine MetP_of (by decide +kernel) rfl ?_
  intro k g hr hR hcl hcg hcd hcb hcn hnx
  subst hcl; subst hcg; subst hcd; subst hcb
  have hM := MS.rf hM
  obtain ⟨⟨hn1, hn2⟩, ht, hnc, hN, -⟩ := id hA
  show Sf k 0 0 h nx 0 [some (.ref m), some (.int x)] []
  refine r_aload_n g dX5_carOf_0 rfl ?_
  refine r_iload_n g dX5_carOf_1 rfl ?_
  refine r_mV g kX5_156 hM (ok_m_wasCall _ _ _ _ s hA hI hM.1 hbm x) rfl rfl rfl hnx hR (by decide) (Nat.zero_le _) (Nat.zero_le _) rfl rfl dX5_carOf_2 ?_
  intro h_1 hM
  refine r_if_eq 17 g dX5_carOf_5 (by decide) (fun c5 => ?_) (fun c5 => ?_)
  · skip
    have q := b2_f c5
    refine r_iconst (v := 0) g dX5_carOf_17 (by decide) ?_
    have hs : sCarOf s r x = (1, 0) := by unfold sCarOf; rw [if_pos q]
    exact r_iret g hr (Nat.le_refl _) (Nat.le_refl _) dX5_carOf_18 (KP_i (c := 1) hM (by rw [hs]; exact hI) (by first | rfl | (rw [q]; rfl)) (by rw [hs]; rfl) (fun z => by rw [hs] at z; cases z) SameG.rf)
  · skip
    have q := b2_t c5
    have hci := inB_at (by omega) q
    refine r_aload_n g dX5_carOf_8 rfl ?_
    refine rm_get g hM fX5_47 rfl dX5_carOf_9 ?_
    refine r_iload_n g dX5_carOf_12 rfl ?_
    refine rm_iald 18 (j := iN x) g hM rfl (by decide) rfl hci.2 (show iN x < 400 by omega) dX5_carOf_13 ?_
    refine r_topi (y := (beI (r.1 (iN x) 0))) (hg.1 (iN x) (by omega)).1 ?_
    refine r_goto 18 g dX5_carOf_14 (by decide) ?_
    have hs : sCarOf s r x = (0, beI (r.1 (iN x) 0)) := by unfold sCarOf; rw [if_neg (by rw [q]; decide)]
    exact r_iret g hr (Nat.le_refl _) (Nat.le_refl _) dX5_carOf_18 (KP_i (c := 0) hM (by rw [hs]; exact hI) (by first | rfl | (rw [q]; rfl)) (by rw [hs]; rfl) (fun _ => by rw [hs]) SameG.rf)
set_option maxHeartbeats 4000000 in
set_option maxRecDepth 100000 in
theorem ok_m_turn (l : Launch) (G : Nat → ClassId) (D : va_G) (base : Nat) {h : Hp} {nx m : Nat} {F : Nat → Int32} {A : Nat → Nat → Int32} {B : Nat → Int64} (s : AS) (hA : AI s) (hI : MI F A s) (hM : MO h m F A B) (hbm : base ≤ m) (r : GR) (hg : MG A r) (c x : Int32) : MetP l G D base miX5_turn 2 0 0 [.ref m, .int c, .int x] h nx (KP h nx m A B false ((sTurn s r c x).1, (sTurn s r c x).2, s)) := by
  refine MetP_of (by decide +kernel) rfl ?_
  intro k g hr hR hcl hcg hcd hcb hcn hnx
  subst hcl; subst hcg; subst hcd; subst hcb
  have hM := MS.rf hM
  obtain ⟨⟨hn1, hn2⟩, ht, hnc, hN, -⟩ := id hA
  show Sf k 0 0 h nx 0 [some (.ref m), some (.int c), some (.int x)] []
  refine r_aload_n g dX5_turn_0 rfl ?_
  refine r_aload_n g dX5_turn_1 rfl ?_
  refine r_iload_n g dX5_turn_2 rfl ?_
  refine r_pV g kX5_108 (ok_m_isCar _ _ _ _ hM.1 hI.2.2.1 (by omega) c) hM.1.1 rfl rfl rfl hnx hR (by decide) (Nat.zero_le _) (Nat.zero_le _) rfl rfl dX5_turn_3 ?_
  refine r_if_eq 13 g dX5_turn_6 (by decide) (fun c6 => ?_) (fun c6 => ?_)
  · skip
    have q := b2_f c6
    refine r_iconst (v := 1) g dX5_turn_13 (by decide) ?_
    refine r_goto 18 g dX5_turn_14 (by decide) ?_
    refine rm_put (F' := upd F 0 1) g hM hbm fX5_88 (by decide) rfl dX5_turn_18 ?_
    intro h_2 hM
    refine r_aload_n g dX5_turn_21 rfl ?_
    refine rm_get g hM fX5_88 rfl dX5_turn_22 ?_
    refine r_topi (y := 1) rfl ?_
    refine r_if_le 32 g dX5_turn_25 (by decide) (fun c25 => absurd c25 (by decide)) (fun c25 => ?_)
    refine r_iconst (v := 0) g dX5_turn_28 (by decide) ?_
    refine r_goto 57 g dX5_turn_29 (by decide) ?_
    have hs : sTurn s r c x = (1, 0) := by unfold sTurn; rw [if_pos (by first | (rw [q]; rfl) | (rw [q, q2]; rfl))]
    exact r_iret g hr (Nat.le_refl _) (Nat.le_refl _) dX5_turn_57 (KP_i (c := 1) hM (by rw [hs]; exact hI) (by first | rfl | (rw [q]; rfl)) (by rw [hs]; rfl) (fun z => by rw [hs] at z; cases z) SameG.rf)
  · skip
    have q := b2_t c6
    refine r_iload_n g dX5_turn_9 rfl ?_
    refine r_if_ge 17 g dX5_turn_10 (by decide) (fun c10 => ?_) (fun c10 => ?_)
    · skip
      have q2 : decide (0 ≤ x) = true := decide_eq_true c10
      refine r_iconst (v := 0) g dX5_turn_17 (by decide) ?_
      refine rm_put (F' := upd F 0 0) g hM hbm fX5_88 (by decide) rfl dX5_turn_18 ?_
      intro h_4 hM
      refine r_aload_n g dX5_turn_21 rfl ?_
      refine rm_get g hM fX5_88 rfl dX5_turn_22 ?_
      refine r_topi (y := 0) rfl ?_
      refine r_if_le 32 g dX5_turn_25 (by decide) (fun c25 => ?_) (fun c25 => absurd c25 (by decide))
      have hci := inB_at (by omega) q
      have hx := nn_at (of_decide_eq_true q2)
      have hgc := hg.2 (iN c) (by omega)
      refine r_iload_n g dX5_turn_32 rfl ?_
      refine r_aload_n g dX5_turn_33 rfl ?_
      refine rm_get g hM fX5_62 rfl dX5_turn_34 ?_
      refine r_iload_n g dX5_turn_37 rfl ?_
      refine rm_iald 23 (j := iN c) g hM rfl (by decide) rfl hci.2 (show iN c < 4 by omega) dX5_turn_38 ?_
      refine r_topi (y := (nI (r.2.2 (iN c)))) hgc.1 ?_
      refine r_icmp_ge 56 g dX5_turn_39 (by decide) (fun c39 => ?_) (fun c39 => ?_)
      · skip
        have q3 : ¬ iN x < r.2.2 (iN c) := fun z => absurd c39 (by rw [hx.1]; exact nI_ge z (by omega))
        refine r_iconst (v := (-1)) g dX5_turn_56 (by decide) ?_
        have hs : sTurn s r c x = (0, -1) := by unfold sTurn; rw [if_neg (by rw [q, q2]; decide), if_neg q3]
        exact r_iret g hr (Nat.le_refl _) (Nat.le_refl _) dX5_turn_57 (KP_i (c := 0) hM (by rw [hs]; exact hI) (by first | rfl | (rw [q]; rfl)) (by rw [hs]; rfl) (fun _ => by rw [hs]) SameG.rf)
      · skip
        have q3 : iN x < r.2.2 (iN c) := Nat.lt_of_not_le (fun z => c39 (by rw [hx.1]; exact nI_le z hx.2))
        refine r_aload_n g dX5_turn_42 rfl ?_
        refine rm_get g hM fX5_59 rfl dX5_turn_43 ?_
        refine r_bipush (v := 6) g dX5_turn_46 (by decide) ?_
        refine r_iload_n g dX5_turn_48 rfl ?_
        refine r_topi (y := (nI (iN c))) hci.2 ?_
        refine r_imul g dX5_turn_49 ?_
        refine r_topi (y := (nI (6 * (iN c)))) (pk_mul 6 (iN c)) ?_
        refine r_iload_n g dX5_turn_50 rfl ?_
        refine r_topi (y := (nI (iN x))) hx.1 ?_
        refine r_iadd g dX5_turn_51 ?_
        refine r_topi (y := (nI ((6 * (iN c)) + (iN x)))) (nI_add (6 * (iN c)) (iN x)) ?_
        refine rm_iald 22 (j := (6 * (iN c)) + (iN x)) g hM rfl (by decide) rfl rfl (show 6 * iN c + iN x < 24 by have := hgc.2.1; omega) dX5_turn_52 ?_
        refine r_topi (y := (nI (r.2.1 (iN c) (iN x)))) (hgc.2.2 (iN x) q3) ?_
        refine r_goto 57 g dX5_turn_53 (by decide) ?_
        have hs : sTurn s r c x = (0, nI (r.2.1 (iN c) (iN x))) := by unfold sTurn; rw [if_neg (by rw [q, q2]; decide), if_pos q3]
        exact r_iret g hr (Nat.le_refl _) (Nat.le_refl _) dX5_turn_57 (KP_i (c := 0) hM (by rw [hs]; exact hI) (by first | rfl | (rw [q]; rfl)) (by rw [hs]; rfl) (fun _ => by rw [hs]) SameG.rf)
    · skip
      have q2 : decide (0 ≤ x) = false := decide_eq_false c10
      refine r_iconst (v := 1) g dX5_turn_13 (by decide) ?_
      refine r_goto 18 g dX5_turn_14 (by decide) ?_
      refine rm_put (F' := upd F 0 1) g hM hbm fX5_88 (by decide) rfl dX5_turn_18 ?_
      intro h_6 hM
      refine r_aload_n g dX5_turn_21 rfl ?_
      refine rm_get g hM fX5_88 rfl dX5_turn_22 ?_
      refine r_topi (y := 1) rfl ?_
      refine r_if_le 32 g dX5_turn_25 (by decide) (fun c25 => absurd c25 (by decide)) (fun c25 => ?_)
      refine r_iconst (v := 0) g dX5_turn_28 (by decide) ?_
      refine r_goto 57 g dX5_turn_29 (by decide) ?_
      have hs : sTurn s r c x = (1, 0) := by unfold sTurn; rw [if_pos (by first | (rw [q]; rfl) | (rw [q, q2]; rfl))]
      exact r_iret g hr (Nat.le_refl _) (Nat.le_refl _) dX5_turn_57 (KP_i (c := 1) hM (by rw [hs]; exact hI) (by first | rfl | (rw [q]; rfl)) (by rw [hs]; rfl) (fun z => by rw [hs] at z; cases z) SameG.rf)
set_option maxHeartbeats 4000000 in
set_option maxRecDepth 100000 in
theorem ok_m_told (l : Launch) (G : Nat → ClassId) (D : va_G) (base : Nat) {h : Hp} {nx m : Nat} {F : Nat → Int32} {A : Nat → Nat → Int32} {B : Nat → Int64} (s : AS) (hA : AI s) (hI : MI F A s) (hM : MO h m F A B) (hbm : base ≤ m) (r : GR) (hg : MG A r) (x w : Int32) : MetP l G D base miX5_told 1 0 0 [.ref m, .int x, .int w] h nx (KP h nx m A B false ((sTold s r x w).1, (sTold s r x w).2, s)) := by
  refine MetP_of (by decide +kernel) rfl ?_
  intro k g hr hR hcl hcg hcd hcb hcn hnx
  subst hcl; subst hcg; subst hcd; subst hcb
  have hM := MS.rf hM
  obtain ⟨⟨hn1, hn2⟩, ht, hnc, hN, -⟩ := id hA
  show Sf k 0 0 h nx 0 [some (.ref m), some (.int x), some (.int w)] []
  refine r_aload_n g dX5_told_0 rfl ?_
  refine r_iload_n g dX5_told_1 rfl ?_
  refine r_iconst (v := 0) g dX5_told_2 (by decide) ?_
  refine r_aload_n g dX5_told_3 rfl ?_
  refine rm_get g hM fX5_98 rfl dX5_told_4 ?_
  refine r_topi (y := (nI (s.1 3))) hI.2.2.2.1 ?_
  refine r_iconst (v := 1) g dX5_told_7 (by decide) ?_
  refine r_isub g dX5_told_8 ?_
  refine r_pS g kX5_91 (ok_m_isIn _ _ _ _ x 0 ((nI (s.1 3)) - 1)) rfl rfl hnx hR (by decide) (Nat.zero_le _) (Nat.zero_le _) rfl rfl dX5_told_9 ?_
  refine r_topi (y := (b2 (inB x (s.1 3)))) (by rw [inB_sub (by omega)]) ?_
  refine r_if_eq 24 g dX5_told_12 (by decide) (fun c12 => ?_) (fun c12 => ?_)
  · skip
    have q := b2_f c12
    refine r_iconst (v := 1) g dX5_told_24 (by decide) ?_
    refine r_goto 29 g dX5_told_25 (by decide) ?_
    refine rm_put (F' := upd F 0 1) g hM hbm fX5_88 (by decide) rfl dX5_told_29 ?_
    intro h_2 hM
    refine r_aload_n g dX5_told_32 rfl ?_
    refine rm_get g hM fX5_88 rfl dX5_told_33 ?_
    refine r_topi (y := 1) rfl ?_
    refine r_if_le 41 g dX5_told_36 (by decide) (fun c36 => absurd c36 (by decide)) (fun c36 => ?_)
    refine r_iconst (v := 0) g dX5_told_39 (by decide) ?_
    have hs : sTold s r x w = (1, 0) := by unfold sTold; rw [if_pos (by first | (rw [q]; rfl) | (rw [q, q2]; rfl))]
    exact r_iret g hr (Nat.le_refl _) (Nat.le_refl _) dX5_told_40 (KP_i (c := 1) hM (by rw [hs]; exact hI) (by first | rfl | (rw [q]; rfl)) (by rw [hs]; rfl) (fun z => by rw [hs] at z; cases z) SameG.rf)
  · skip
    have q := b2_t c12
    refine r_iload_n g dX5_told_15 rfl ?_
    refine r_iconst (v := 0) g dX5_told_16 (by decide) ?_
    refine r_iconst (v := 2) g dX5_told_17 (by decide) ?_
    refine r_pS g kX5_91 (ok_m_isIn _ _ _ _ w 0 2) rfl rfl hnx hR (by decide) (Nat.zero_le _) (Nat.zero_le _) rfl rfl dX5_told_18 ?_
    refine r_if_ne 28 g dX5_told_21 (by decide) (fun c21 => ?_) (fun c21 => ?_)
    · skip
      have q2 : inR w 0 2 = true := b2_t c21
      refine r_iconst (v := 0) g dX5_told_28 (by decide) ?_
      refine rm_put (F' := upd F 0 0) g hM hbm fX5_88 (by decide) rfl dX5_told_29 ?_
      intro h_4 hM
      refine r_aload_n g dX5_told_32 rfl ?_
      refine rm_get g hM fX5_88 rfl dX5_told_33 ?_
      refine r_topi (y := 0) rfl ?_
      refine r_if_le 41 g dX5_told_36 (by decide) (fun c36 => ?_) (fun c36 => absurd c36 (by decide))
      have hci := inB_at (by omega) q
      have hw := inR_at (by decide) (by decide) q2
      have hgc := hg.1 (iN x) (by omega)
      refine r_aload_n g dX5_told_41 rfl ?_
      refine rm_get g hM fX5_47 rfl dX5_told_42 ?_
      refine r_iload_n g dX5_told_45 rfl ?_
      refine rm_iald 18 (j := iN x) g hM rfl (by decide) rfl hci.2 (show iN x < 400 by omega) dX5_told_46 ?_
      refine r_topi (y := (beI (r.1 (iN x) 0))) hgc.1 ?_
      refine r_iconst (v := (-1)) g dX5_told_47 (by decide) ?_
      refine r_icmp_ne 55 g dX5_told_48 (by decide) (fun c48 => ?_) (fun c48 => ?_)
      · skip
        have q3 : ¬ r.1 (iN x) 0 = 4 := fun z => c48 ((beI_m hgc.2.1).mpr z)
        have hg3 := hgc.2.2 q3
        refine r_iload_n g dX5_told_55 rfl ?_
        refine r_if_ne 68 g dX5_told_56 (by decide) (fun c56 => ?_) (fun c56 => ?_)
        · skip
          have q4 : ¬ iN w = 0 := fun z => c56 (by rw [hw.2.2, z]; rfl)
          refine r_iload_n g dX5_told_68 rfl ?_
          refine r_iconst (v := 1) g dX5_told_69 (by decide) ?_
          refine r_icmp_ne 82 g dX5_told_70 (by decide) (fun c70 => ?_) (fun c70 => ?_)
          · skip
            have q5 : ¬ iN w = 1 := fun z => c70 (by rw [hw.2.2, z]; rfl)
            have q4 : iN w = 2 := by omega
            refine r_aload_n g dX5_told_82 rfl ?_
            refine rm_get g hM fX5_56 rfl dX5_told_83 ?_
            refine r_iload_n g dX5_told_86 rfl ?_
            refine rm_iald 21 (j := iN x) g hM rfl (by decide) rfl hci.2 (show iN x < 400 by omega) dX5_told_87 ?_
            refine r_topi (y := (nI (r.1 (iN x) 3))) hg3.2.2 ?_
            have hs : sTold s r x w = (0, (nI (r.1 (iN x) 3))) := by unfold sTold; rw [if_neg (by rw [q, q2]; decide), if_neg q3, q4]
            exact r_iret g hr (Nat.le_refl _) (Nat.le_refl _) dX5_told_88 (KP_i (c := 0) hM (by rw [hs]; exact hI) (by first | rfl | (rw [q]; rfl)) (by rw [hs]; rfl) (fun _ => by rw [hs]) SameG.rf)
          · skip
            have q4 : iN w = 1 := by rw [c70]; rfl
            refine r_aload_n g dX5_told_73 rfl ?_
            refine rm_get g hM fX5_53 rfl dX5_told_74 ?_
            refine r_iload_n g dX5_told_77 rfl ?_
            refine rm_iald 20 (j := iN x) g hM rfl (by decide) rfl hci.2 (show iN x < 400 by omega) dX5_told_78 ?_
            refine r_topi (y := (nI (r.1 (iN x) 2))) hg3.2.1 ?_
            refine r_goto 88 g dX5_told_79 (by decide) ?_
            have hs : sTold s r x w = (0, (nI (r.1 (iN x) 2))) := by unfold sTold; rw [if_neg (by rw [q, q2]; decide), if_neg q3, q4]
            exact r_iret g hr (Nat.le_refl _) (Nat.le_refl _) dX5_told_88 (KP_i (c := 0) hM (by rw [hs]; exact hI) (by first | rfl | (rw [q]; rfl)) (by rw [hs]; rfl) (fun _ => by rw [hs]) SameG.rf)
        · skip
          have q4 : iN w = 0 := by rw [c56]; rfl
          refine r_aload_n g dX5_told_59 rfl ?_
          refine rm_get g hM fX5_50 rfl dX5_told_60 ?_
          refine r_iload_n g dX5_told_63 rfl ?_
          refine rm_iald 19 (j := iN x) g hM rfl (by decide) rfl hci.2 (show iN x < 400 by omega) dX5_told_64 ?_
          refine r_topi (y := (nI (r.1 (iN x) 1))) hg3.1 ?_
          refine r_goto 88 g dX5_told_65 (by decide) ?_
          have hs : sTold s r x w = (0, (nI (r.1 (iN x) 1))) := by unfold sTold; rw [if_neg (by rw [q, q2]; decide), if_neg q3, q4]
          exact r_iret g hr (Nat.le_refl _) (Nat.le_refl _) dX5_told_88 (KP_i (c := 0) hM (by rw [hs]; exact hI) (by first | rfl | (rw [q]; rfl)) (by rw [hs]; rfl) (fun _ => by rw [hs]) SameG.rf)
      · skip
        have q3 := (beI_m hgc.2.1).mp c48
        refine r_iconst (v := (-1)) g dX5_told_51 (by decide) ?_
        refine r_goto 88 g dX5_told_52 (by decide) ?_
        have hs : sTold s r x w = (0, -1) := by unfold sTold; rw [if_neg (by rw [q, q2]; decide), if_pos q3]
        exact r_iret g hr (Nat.le_refl _) (Nat.le_refl _) dX5_told_88 (KP_i (c := 0) hM (by rw [hs]; exact hI) (by first | rfl | (rw [q]; rfl)) (by rw [hs]; rfl) (fun _ => by rw [hs]) SameG.rf)
    · skip
      have q2 : inR w 0 2 = false := b2_f c21
      refine r_iconst (v := 1) g dX5_told_24 (by decide) ?_
      refine r_goto 29 g dX5_told_25 (by decide) ?_
      refine rm_put (F' := upd F 0 1) g hM hbm fX5_88 (by decide) rfl dX5_told_29 ?_
      intro h_6 hM
      refine r_aload_n g dX5_told_32 rfl ?_
      refine rm_get g hM fX5_88 rfl dX5_told_33 ?_
      refine r_topi (y := 1) rfl ?_
      refine r_if_le 41 g dX5_told_36 (by decide) (fun c36 => absurd c36 (by decide)) (fun c36 => ?_)
      refine r_iconst (v := 0) g dX5_told_39 (by decide) ?_
      have hs : sTold s r x w = (1, 0) := by unfold sTold; rw [if_pos (by first | (rw [q]; rfl) | (rw [q, q2]; rfl))]
      exact r_iret g hr (Nat.le_refl _) (Nat.le_refl _) dX5_told_40 (KP_i (c := 1) hM (by rw [hs]; exact hI) (by first | rfl | (rw [q]; rfl)) (by rw [hs]; rfl) (fun z => by rw [hs] at z; cases z) SameG.rf)
