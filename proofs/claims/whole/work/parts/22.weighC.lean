/-! 22: a car's rows of all sets -/
theorem RK.set {s : AS} {c S Pl : Nat} {CO CO' : Nat → Int64} {FI FI' : Nat → Int32} (h : RK s c S CO FI) (h0 : S ≠ 0) (hP : Pl < 7) (hf : ∀ j, j ≠ S * 7 + Pl → CO' j = CO j ∧ FI' j = FI j) : RK s c S CO' FI' := by
  refine ⟨fun j hj => (hf j (by omega)).1.trans (h.1 j hj), fun T Q hT h1 h2 h3 => ?_⟩
  have hQ : Q < 7 := by rcases h3 with e | e <;> omega
  have h9 := h.2 T Q hT h1 h2 h3
  have h8 := hf (T * 7 + Q) (by omega)
  exact ⟨h8.1.trans h9.1, h8.2.trans h9.2⟩
theorem RK.next {s : AS} {c S : Nat} {CO : Nat → Int64} {FI : Nat → Int32} (h : RK s c S CO FI) (h2 : S &&& abl s c = S → ∀ Q, plO s c S Q → CO (S * 7 + Q) = lN (bpc s c S Q) ∧ FI (S * 7 + Q) = nI (bpi s c S Q)) : RK s c (S + 1) CO FI := by
  refine ⟨h.1, fun T Q hT h3 h4 h5 => ?_⟩
  by_cases e : T = S
  · subst e; exact h2 h4 Q h5
  · exact h.2 T Q (by omega) h3 h4 h5
/-- what weigh sets -/
def KWe (h : Hp) (nx r : Nat) (s : AS) (c : Nat) : Option Value → Hp → Nat → Prop := fun v h' nx' => v = none ∧ nx = nx' ∧ ∃ W' CO' FI', RwS h h' r W' CO' FI' ∧ WF s c W' ∧ RK s c 64 CO' FI'

set_option maxHeartbeats 4000000 in
set_option maxRecDepth 100000 in
theorem ok_r_firsts (l : Launch) (G : Nat → ClassId) (D : va_G) (base : Nat) {h : Hp} {nx r : Nat} {W : Nat → Int32} {CO : Nat → Int64} {FI : Nat → Int32} (s : AS) (hA : AI s) {c : Nat} (hc : c < s.1 2) (hW : RO h r W CO FI) (hWF : WF s c W) {S : Nat} (hS : S < 64) : MetP l G D base miX3_firsts 0 0 0 [.ref r, .int (nI S)] h nx (Kv (.int (nI (frs s c S 6))) h nx) := by
  refine MetP_of (by decide +kernel) rfl ?_
  intro k g hr hR hcl hcg hcd hcb hcn hnx
  subst hcl; subst hcg; subst hcd; subst hcb
  have hc4 : c ≠ 4 := by have := hA.2.2.1; omega
  have hb6 : bsl s c ≤ 6 := by have := gn_le hA; rcases bsl_at hA c with z | z <;> omega
  show Sf k 0 0 h nx 0 [some (.ref r), some (.int (nI S))] []
  refine r_aload_n g dX3_firsts_0 rfl ?_
  refine r_getf g fX3_43 hW.1 rfl dX3_firsts_1 ?_
  refine r_topi (y := (beB (bsl s c))) hWF.2.2.2 ?_
  refine r_iconst (v := (-1)) g dX3_firsts_4 (by decide) ?_
  refine r_icmp_eq 28 g dX3_firsts_5 (by decide) (fun c5 => ?_) (fun c5 => ?_)
  · skip
    have q := (beB_6 hb6).mp c5
    refine r_iload_n g dX3_firsts_28 rfl ?_
    exact r_iret g hr (Nat.le_refl _) (Nat.le_refl _) dX3_firsts_29 ⟨congrArg (fun z => some (Value.int (nI z))) ((frs_6 hA hc4 (by first | exact Or.inl q | exact Or.inr q2)).symm), rfl, rfl⟩
  · skip
    have q : bsl s c ≠ 6 := fun z => c5 ((beB_6 hb6).mpr z)
    have q5 : bsl s c < 6 := by omega
    refine r_iload_n g dX3_firsts_8 rfl ?_
    refine r_aload_n g dX3_firsts_9 rfl ?_
    refine r_getf g fX3_43 hW.1 rfl dX3_firsts_10 ?_
    refine r_topi (y := (beB (bsl s c))) hWF.2.2.2 ?_
    refine r_topi (y := (nI (bsl s c))) (beB_n q) ?_
    refine r_ishr g dX3_firsts_13 ?_
    refine r_topi (y := (nI (S / 2 ^ bsl s c))) (sh_n (by omega) (by omega)) ?_
    refine r_iconst (v := 1) g dX3_firsts_14 (by decide) ?_
    refine r_iand g dX3_firsts_15 ?_
    refine r_topi (y := (nI (S / 2 ^ bsl s c % 2))) (and_1 (Nat.lt_of_le_of_lt (Nat.div_le_self _ _) (by omega))) ?_
    refine r_if_eq 28 g dX3_firsts_16 (by decide) (fun c16 => ?_) (fun c16 => ?_)
    · skip
      have q2 := bt0 c16
      refine r_iload_n g dX3_firsts_28 rfl ?_
      exact r_iret g hr (Nat.le_refl _) (Nat.le_refl _) dX3_firsts_29 ⟨congrArg (fun z => some (Value.int (nI z))) ((frs_6 hA hc4 (by first | exact Or.inl q | exact Or.inr q2)).symm), rfl, rfl⟩
    · skip
      have q2 := bt1 c16
      refine r_iconst (v := 1) g dX3_firsts_19 (by decide) ?_
      refine r_aload_n g dX3_firsts_20 rfl ?_
      refine r_getf g fX3_43 hW.1 rfl dX3_firsts_21 ?_
      refine r_topi (y := (beB (bsl s c))) hWF.2.2.2 ?_
      refine r_topi (y := (nI (bsl s c))) (beB_n q) ?_
      refine r_ishl g dX3_firsts_24 ?_
      refine r_topi (y := (nI (2 ^ bsl s c))) (shl1 (by omega)) ?_
      refine r_goto 29 g dX3_firsts_25 (by decide) ?_
      exact r_iret g hr (Nat.le_refl _) (Nat.le_refl _) dX3_firsts_29 ⟨congrArg (fun z => some (Value.int (nI z))) ((frs_b hA hc4 q q2).symm), rfl, rfl⟩
theorem frs_lt {s : AS} (hA : AI s) {c S : Nat} (hS : S < 64) : frs s c S 6 < 64 := by
  unfold frs
  rw [if_neg (by decide)]
  split
  · exact hS
  · next h =>
    have := (firstF_bit (gn_le hA) h).1
    exact Nat.lt_of_lt_of_le (Nat.pow_lt_pow_right (by decide) this) (by decide)
set_option maxHeartbeats 4000000 in
set_option maxRecDepth 100000 in
theorem ok_r_weigh (l : Launch) (G : Nat → ClassId) (D : va_G) (base : Nat) {h0 : Hp} {nx r : Nat} {W : Nat → Int32} {CO : Nat → Int64} {FI : Nat → Int32} {gv : Nat} {C : Int32} {Lz : Int64} {GA : Nat → Nat → Int32} (s : AS) (hA : AI s) {c : Nat} (hc : c < s.1 2) {la : Nat} {LF : Nat → Int32} (hW : RO h0 r W CO FI) (hC7 : ∀ j, j < 7 → CO j = 0) (hC : C = nI (gn s)) (hG : GO h0 gv C Lz GA) (hd : gv + 14 ≤ r ∨ r + 3 ≤ gv) (hF : GF s GA) (hB : BU s GA) (hL : h0 la = some (eO 1 (lobj la LF))) (hdl : la < r ∨ r + 3 ≤ la) (hl0 : LF 0 = nI (s.2.1 c 0)) (hl1 : LF 1 = nI (s.2.1 c 1)) (hbr : base ≤ r) : MetP l G D base miX3_weigh 3 0 0 [.ref r, .ref gv, .ref la, .int (nI c), .int (nI (gdl s c))] h0 nx (KWe h0 nx r s c) := by
  refine MetP_of (by decide +kernel) rfl ?_
  intro k g hr hR hcl hcg hcd hcb hcn hnx
  subst hcl; subst hcg; subst hcd; subst hcb
  have hW := RwS.rf hW
  show Sf k 0 0 h0 nx 0 [some (.ref r), some (.ref gv), some (.ref la), some (.int (nI c)), some (.int (nI (gdl s c))), none, none, none] []
  have hg6 := gn_le hA
  have h64 := g6_64 hg6
  have hab := abl_lt s c
  have hc4 : c < 4 := by have := hA.2.2.1; omega
  have loops : ∀ W1 : Nat → Int32, WF s c W1 → ∀ (CO1 : Nat → Int64) (FI1 : Nat → Int32) (h : Hp), RwS h0 h r W1 CO1 FI1 → RK s c 1 CO1 FI1 → Sf k 0 0 h nx 41 [some (.ref r), some (.ref gv), some (.ref la), some (.int (nI c)), some (.int (nI (gdl s c))), some (.int (nI (abl s c))), some (.int (nI 1)), none] [] := by
    intro W1 hWF
    have loop : ∀ e S (CO1 : Nat → Int64) (FI1 : Nat → Int32) (h : Hp), RwS h0 h r W1 CO1 FI1 → S + e = 64 → S ≠ 0 → RK s c S CO1 FI1 → Sf k 0 0 h nx 41 [some (.ref r), some (.ref gv), some (.ref la), some (.int (nI c)), some (.int (nI (gdl s c))), some (.int (nI (abl s c))), some (.int (nI S)), none] [] := by
      intro e
      induction e with
      | zero =>
        intro S CO1 FI1 h hW hS h0S hK
        have hS2 : S = 64 := by omega
        subst hS2
        refine r_iload g dX3_weigh_41 rfl ?_
        refine r_bipush (v := 64) g dX3_weigh_43 (by decide) ?_
        refine r_icmp_ge 126 g dX3_weigh_45 (by decide) (fun c45 => ?_) (fun c45 => absurd (show (64 : Int32) ≤ nI 64 by decide) c45)
        exact r_vret g hr (Nat.le_refl _) (Nat.le_refl _) dX3_weigh_126 ⟨rfl, rfl, W1, CO1, FI1, hW, hWF, hK⟩
      | succ e ih =>
        intro S CO1 FI1 h hW hS h0S hK
        have inner : S &&& abl s c = S → ∀ e2 p (CO1 : Nat → Int64) (FI1 : Nat → Int32) (h : Hp), RwS h0 h r W1 CO1 FI1 → p + e2 = 6 → RK s c S CO1 FI1 → (∀ Q, Q < p → plO s c S Q → CO1 (S * 7 + Q) = lN (bpc s c S Q) ∧ FI1 (S * 7 + Q) = nI (bpi s c S Q)) → Sf k 0 0 h nx 61 [some (.ref r), some (.ref gv), some (.ref la), some (.int (nI c)), some (.int (nI (gdl s c))), some (.int (nI (abl s c))), some (.int (nI S)), some (.int (nI p))] [] := by
          intro hsb
          have hSg := and_lt hsb hab
          intro e2
          induction e2 with
          | zero =>
            intro p CO1 FI1 h hW hp hK hI
            have hp2 : p = 6 := by omega
            subst hp2
            refine r_iload g dX3_weigh_61 rfl ?_
            refine r_bipush (v := 6) g dX3_weigh_63 (by decide) ?_
            refine r_icmp_ge 105 g dX3_weigh_65 (by decide) (fun c65 => ?_) (fun c65 => absurd (show (6 : Int32) ≤ nI 6 by decide) c65)
            refine r_aload_n g dX3_weigh_105 rfl ?_
            refine r_aload_n g dX3_weigh_106 rfl ?_
            refine r_iload g dX3_weigh_107 rfl ?_
            refine r_bipush (v := 6) g dX3_weigh_109 (by decide) ?_
            refine r_aload_n g dX3_weigh_111 rfl ?_
            refine r_iload g dX3_weigh_112 rfl ?_
            refine r_pV g kX3_53 (ok_r_firsts _ _ _ _ s hA hc hW.1 hWF (S := S) (by omega)) hW.1.1 rfl rfl rfl hnx hR (by decide) (Nat.zero_le _) (Nat.zero_le _) rfl rfl dX3_weigh_114 ?_
            have hf6 : frs s c S 6 < 64 := frs_lt hA (by omega)
            refine r_callV g kX3_49 (ok_r_choose _ _ _ _ s hA hc hW.1 (hG.fr hW.2 hd) hd hF hB hWF hbr (S := S) (Pl := 6) (Fi := frs s c S 6) hSg h0S (Or.inl rfl) rfl (by omega) (fun i hi => hK.need hg6 (by omega) hsb i (frs_sub hg6 hi))) hW.1.1 rfl rfl rfl hnx hR (by decide) (Nat.zero_le _) (Nat.zero_le _) rfl rfl dX3_weigh_117 ?_
            rintro v9 h_1 nx9 ⟨rfl, rfl, CO9, FI9, hW9, hv9, hf9⟩ -
            have hW := hW.then hW9
            refine r_iinc (v := (nI (S + 1))) g dX3_weigh_120 rfl (nI_add S 1) rfl rfl ?_
            refine r_goto 41 g dX3_weigh_123 (by decide) ?_
            refine r_le (ls2 := [some (.ref r), some (.ref gv), some (.ref la), some (.int (nI c)), some (.int (nI (gdl s c))), some (.int (nI (abl s c))), some (.int (nI (S + 1))), none]) ⟨rfl, rfl, rfl, rfl, rfl, rfl, rfl, trivial⟩ ?_
            refine ih (S + 1) CO9 FI9 _ hW (by omega) (by omega) ((hK.set h0S (Pl := 6) (by decide) hf9).next (fun _ Q hQ => ?_))
            rcases hQ with e9 | e9
            · subst e9; exact hv9
            · have h8 := hf9 (S * 7 + Q) (by omega)
              have h7 := hI Q e9.1 (Or.inr e9)
              exact ⟨h8.1.trans h7.1, h8.2.trans h7.2⟩
          | succ e2 ih2 =>
            intro p CO1 FI1 h hW hp hK hI
            have hd1 : abl s c / 2 ^ p < 2 ^ 31 := Nat.lt_of_le_of_lt (Nat.div_le_self _ _) (by omega)
            have hd2 : S / 2 ^ p < 2 ^ 31 := Nat.lt_of_le_of_lt (Nat.div_le_self _ _) (by omega)
            refine r_iload g dX3_weigh_61 rfl ?_
            refine r_bipush (v := 6) g dX3_weigh_63 (by decide) ?_
            refine r_icmp_ge 105 g dX3_weigh_65 (by decide) (fun c65 => absurd c65 (nI_ge (b := 6) (by omega) (by decide))) (fun c65 => ?_)
            refine r_iload g dX3_weigh_68 rfl ?_
            refine r_iload g dX3_weigh_70 rfl ?_
            refine r_ishr g dX3_weigh_72 ?_
            refine r_topi (y := (nI (abl s c / 2 ^ p))) (sh_n (by omega) (by omega)) ?_
            refine r_iconst (v := 1) g dX3_weigh_73 (by decide) ?_
            refine r_iand g dX3_weigh_74 ?_
            refine r_topi (y := (nI (abl s c / 2 ^ p % 2))) (and_1 hd1) ?_
            refine r_if_eq 99 g dX3_weigh_75 (by decide) (fun c75 => ?_) (fun c75 => ?_)
            · skip
              have q := bt0 c75
              refine r_iinc (v := (nI (p + 1))) g dX3_weigh_99 rfl (nI_add p 1) rfl rfl ?_
              refine r_goto 61 g dX3_weigh_102 (by decide) ?_
              refine ih2 (p + 1) CO1 FI1 _ hW (by omega) hK (fun Q hQl hQ => ?_)
              by_cases e9 : Q = p
              · subst e9
                rcases hQ with hQ | ⟨-, hQ, hQ2⟩
                · omega
                · rw [q] at hQ; cases hQ
              · exact hI Q (by omega) hQ
            · skip
              have q := bt1 c75
              refine r_iload g dX3_weigh_78 rfl ?_
              refine r_iload g dX3_weigh_80 rfl ?_
              refine r_ishr g dX3_weigh_82 ?_
              refine r_topi (y := (nI (S / 2 ^ p))) (sh_n (by omega) (by omega)) ?_
              refine r_iconst (v := 1) g dX3_weigh_83 (by decide) ?_
              refine r_iand g dX3_weigh_84 ?_
              refine r_topi (y := (nI (S / 2 ^ p % 2))) (and_1 hd2) ?_
              refine r_if_ne 99 g dX3_weigh_85 (by decide) (fun c85 => ?_) (fun c85 => ?_)
              · skip
                have q2 := bt1 c85
                refine r_iinc (v := (nI (p + 1))) g dX3_weigh_99 rfl (nI_add p 1) rfl rfl ?_
                refine r_goto 61 g dX3_weigh_102 (by decide) ?_
                refine ih2 (p + 1) CO1 FI1 _ hW (by omega) hK (fun Q hQl hQ => ?_)
                by_cases e9 : Q = p
                · subst e9
                  rcases hQ with hQ | ⟨-, hQ, hQ2⟩
                  · omega
                  · rw [q2] at hQ2; cases hQ2
                · exact hI Q (by omega) hQ
              · skip
                have q2 := bt0 c85
                have hpg : p < gn s := bit_lt hab q
                refine r_aload_n g dX3_weigh_88 rfl ?_
                refine r_aload_n g dX3_weigh_89 rfl ?_
                refine r_iload g dX3_weigh_90 rfl ?_
                refine r_iload g dX3_weigh_92 rfl ?_
                refine r_iload g dX3_weigh_94 rfl ?_
                refine r_callV g kX3_49 (ok_r_choose _ _ _ _ s hA hc hW.1 (hG.fr hW.2 hd) hd hF hB hWF hbr (S := S) (Pl := p) (Fi := S) hSg h0S (Or.inr hpg) (frs_i s c S (by omega)).symm (by omega) (fun i hi => hK.need hg6 (by omega) hsb i (frs_sub hg6 hi))) hW.1.1 rfl rfl rfl hnx hR (by decide) (Nat.zero_le _) (Nat.zero_le _) rfl rfl dX3_weigh_96 ?_
                rintro v9 h_2 nx9 ⟨rfl, rfl, CO9, FI9, hW9, hv9, hf9⟩ -
                have hW := hW.then hW9
                refine r_iinc (v := (nI (p + 1))) g dX3_weigh_99 rfl (nI_add p 1) rfl rfl ?_
                refine r_goto 61 g dX3_weigh_102 (by decide) ?_
                refine ih2 (p + 1) CO9 FI9 _ hW (by omega) (hK.set h0S (Pl := p) (by omega) hf9) (fun Q hQl hQ => ?_)
                by_cases e9 : Q = p
                · subst e9; exact hv9
                · have h8 := hf9 (S * 7 + Q) (by omega)
                  have h7 := hI Q (by omega) hQ
                  exact ⟨h8.1.trans h7.1, h8.2.trans h7.2⟩
        refine r_iload g dX3_weigh_41 rfl ?_
        refine r_bipush (v := 64) g dX3_weigh_43 (by decide) ?_
        refine r_icmp_ge 126 g dX3_weigh_45 (by decide) (fun c45 => absurd c45 (nI_ge (b := 64) (by omega) (by decide))) (fun c45 => ?_)
        refine r_iload g dX3_weigh_48 rfl ?_
        refine r_iload g dX3_weigh_50 rfl ?_
        refine r_iconst (v := (-1)) g dX3_weigh_52 (by decide) ?_
        refine r_ixor g dX3_weigh_53 ?_
        refine r_iand g dX3_weigh_54 ?_
        refine r_if_ne 120 g dX3_weigh_55 (by decide) (fun c55 => ?_) (fun c55 => ?_)
        · skip
          have q : ¬ S &&& abl s c = S := fun z => c55 (of_decide_eq_true ((and_n2 S (by omega) _ (by omega)).trans (decide_eq_true z)))
          refine r_iinc (v := (nI (S + 1))) g dX3_weigh_120 rfl (nI_add S 1) rfl rfl ?_
          refine r_goto 41 g dX3_weigh_123 (by decide) ?_
          refine r_le (ls2 := [some (.ref r), some (.ref gv), some (.ref la), some (.int (nI c)), some (.int (nI (gdl s c))), some (.int (nI (abl s c))), some (.int (nI (S + 1))), none]) ⟨rfl, rfl, rfl, rfl, rfl, rfl, rfl, trivial⟩ ?_
          exact ih (S + 1) CO1 FI1 _ hW (by omega) (by omega) (hK.next (fun z => absurd z q))
        · skip
          have q : S &&& abl s c = S := of_decide_eq_true ((and_n2 S (by omega) _ (by omega)).symm.trans (decide_eq_true c55))
          refine r_iconst (v := 0) g dX3_weigh_58 (by decide) ?_
          refine r_istore g dX3_weigh_59 rfl rfl rfl ?_
          refine r_le (ls2 := [some (.ref r), some (.ref gv), some (.ref la), some (.int (nI c)), some (.int (nI (gdl s c))), some (.int (nI (abl s c))), some (.int (nI S)), some (.int (nI 0))]) ⟨rfl, rfl, rfl, rfl, rfl, rfl, rfl, rfl, trivial⟩ ?_
          exact inner q 6 0 CO1 FI1 _ hW (Nat.zero_add _) hK (fun Q hQ => absurd hQ (Nat.not_lt_zero _))
    intro CO1 FI1 h hW hK
    exact loop 63 1 CO1 FI1 h hW (by decide) (by decide) hK
  refine r_aload_n g dX3_weigh_0 rfl ?_
  refine r_aload_n g dX3_weigh_1 rfl ?_
  refine r_getf g fX3_23 ((hW.2 la (by omega)).trans hL) rfl dX3_weigh_2 ?_
  refine rr_put (W' := upd W 0 (LF 0)) g hW hbr fX3_29 (by decide) rfl dX3_weigh_5 ?_
  intro h_3 hW
  refine r_aload_n g dX3_weigh_8 rfl ?_
  refine r_aload_n g dX3_weigh_9 rfl ?_
  refine r_getf g fX3_30 ((hW.2 la (by omega)).trans hL) rfl dX3_weigh_10 ?_
  refine rr_put (W' := upd (upd W 0 (LF 0)) 1 (LF 1)) g hW hbr fX3_33 (by decide) rfl dX3_weigh_13 ?_
  intro h_4 hW
  refine r_aload_n g dX3_weigh_16 rfl ?_
  refine r_iload g dX3_weigh_17 rfl ?_
  refine rr_put (W' := upd (upd (upd W 0 (LF 0)) 1 (LF 1)) 2 (nI (gdl s c))) g hW hbr fX3_34 (by decide) rfl dX3_weigh_19 ?_
  intro h_5 hW
  refine r_aload_n g dX3_weigh_22 rfl ?_
  refine r_aload_n g dX3_weigh_23 rfl ?_
  refine r_iload_n g dX3_weigh_24 rfl ?_
  refine r_callV g kX3_37 (ok_g_begunSlot _ _ _ _ hC hg6 (hG.fr hW.2 hd) (nI c)) (hG.fr hW.2 hd).1 rfl rfl rfl hnx hR (by decide) (Nat.zero_le _) (Nat.zero_le _) rfl rfl dX3_weigh_25 ?_
  rintro v9 h9 nx9 ⟨rfl, rfl, y9, rfl, hy9⟩ -
  refine rr_put (W' := upd (upd (upd (upd W 0 (LF 0)) 1 (LF 1)) 2 (nI (gdl s c))) 3 y9) g hW hbr fX3_43 (by decide) rfl dX3_weigh_28 ?_
  intro h_6 hW
  refine r_aload_n g dX3_weigh_31 rfl ?_
  refine r_iload_n g dX3_weigh_32 rfl ?_
  refine r_pV g kX3_46 (ok_g_slotsFor _ _ _ _ s hA hC hF (hG.fr hW.2 hd) (c := c) (by omega)) (hG.fr hW.2 hd).1 rfl rfl rfl hnx hR (by decide) (Nat.zero_le _) (Nat.zero_le _) rfl rfl dX3_weigh_33 ?_
  refine r_istore g dX3_weigh_36 rfl rfl rfl ?_
  refine r_iconst (v := 1) g dX3_weigh_38 (by decide) ?_
  refine r_istore g dX3_weigh_39 rfl rfl rfl ?_
  refine r_le (ls2 := [some (.ref r), some (.ref gv), some (.ref la), some (.int (nI c)), some (.int (nI (gdl s c))), some (.int (nI (abl s c))), some (.int (nI 1)), none]) ⟨rfl, rfl, rfl, rfl, rfl, rfl, rfl, trivial⟩ ?_
  refine loops (upd (upd (upd (upd W 0 (LF 0)) 1 (LF 1)) 2 (nI (gdl s c))) 3 y9) ⟨hl0, hl1, rfl, bsl_val hA hF hc hy9⟩ CO FI _ hW ⟨hC7, fun T Q hT h1 => absurd h1 (by omega)⟩
