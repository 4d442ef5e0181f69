/-! 30: more methods that change nothing -/
theorem carsZ_1 {s : AS} {q z n : Nat} (h : mayB s n q = true) (h2 : s.2.1 n 5 = z) : carsZ s q z (n + 1) = carsZ s q z n + 2 ^ n := by
  show carsZ s q z n + (if mayB s n q = true ∧ s.2.1 n 5 = z then 2 ^ n else 0) = _
  rw [if_pos ⟨h, h2⟩]
theorem carsZ_0 {s : AS} {q z n : Nat} (h : ¬ (mayB s n q = true ∧ s.2.1 n 5 = z)) : carsZ s q z (n + 1) = carsZ s q z n := by
  show carsZ s q z n + (if mayB s n q = true ∧ s.2.1 n 5 = z then 2 ^ n else 0) = _
  rw [if_neg h]; rfl
theorem carsZ_lt2 (s : AS) (q z : Nat) : ∀ n, carsZ s q z n < 2 ^ n
  | 0 => Nat.one_pos
  | n + 1 => by
    have := carsZ_lt2 s q z n
    show carsZ s q z n + (if mayB s n q = true ∧ s.2.1 n 5 = z then 2 ^ n else 0) < _
    rw [Nat.pow_succ]
    split <;> omega
/-- the cars below i (of those there are) -/
def carsM (s : AS) (q z i : Nat) : Nat := carsZ s q z (if i < s.1 2 then i else s.1 2)
theorem carsM_up {s : AS} {q z i : Nat} (h : ¬ i < s.1 2) : carsM s q z (i + 1) = carsM s q z i := by
  unfold carsM
  rw [if_neg h, if_neg (by omega)]
theorem carsM_s {s : AS} {q z i : Nat} (h : i < s.1 2) : carsM s q z i = carsZ s q z i ∧ carsM s q z (i + 1) = carsZ s q z (i + 1) := by
  unfold carsM
  rw [if_pos h]
  refine ⟨rfl, ?_⟩
  by_cases e : i + 1 < s.1 2
  · rw [if_pos e]
  · rw [if_neg e]; congr 1; omega
theorem mayB_t {s : AS} {c q : Nat} (h1 : witB s c q = true) (h2 : s.2.2 q 5 = 4 ∨ s.2.2 q 5 = c) : mayB s c q = true := by
  unfold mayB; rw [h1, decide_eq_true h2]; rfl
theorem mayB_w {s : AS} {c q : Nat} (h1 : witB s c q = false) : mayB s c q = false := by unfold mayB; rw [h1]; rfl
theorem mayB_b {s : AS} {c q : Nat} (h2 : ¬ (s.2.2 q 5 = 4 ∨ s.2.2 q 5 = c)) : mayB s c q = false := by
  unfold mayB; rw [decide_eq_false h2, Bool.and_false]

set_option maxHeartbeats 4000000 in
set_option maxRecDepth 100000 in
theorem ok_c_ableCars (l : Launch) (G : Nat → ClassId) (D : va_G) (base : Nat) {h : Hp} {nx x : Nat} {s : AS} {la ra cs : Nat → Nat} (hA : AI s) (hB : CB h x s la ra cs) {b q : Nat} (hq : q < s.1 3) (hRd : h b = some (eO 2 (dobj (rfS s q)))) : MetP l G D base miX4_ableCars 2 0 0 [.ref x, .ref b] h nx (Kv (.int (nI (carsN s q))) h nx) := by
  refine MetP_of (by decide +kernel) rfl ?_
  intro k g hr hR hcl hcg hcd hcb hcn hnx
  subst hcl; subst hcg; subst hcd; subst hcb
  obtain ⟨⟨hn1, hn2⟩, ht, hnc, hN, -⟩ := id hA
  have hop := hA.2.2.2.2.2.2.1
  have hk9 := hA.2.2.2.2.2.1 q hq
  show Sf k 0 0 h nx 0 [some (.ref x), some (.ref b), none, none, none, none] []
  have loop : ∀ e i, i + e = 4 → Sf k 0 0 h nx 7 [some (.ref x), some (.ref b), some (.int (nI (carsM s q 0 i))), some (.int (nI (carsM s q 1 i))), some (.int (nI i)), none] [] := by
    intro e
    induction e with
    | zero =>
      intro i hi
      have hi2 : i = 4 := by omega
      subst hi2
      have h0 : carsM s q 0 4 = carsZ s q 0 (s.1 2) := by unfold carsM; rw [if_neg (by omega)]
      have h1 : carsM s q 1 4 = carsZ s q 1 (s.1 2) := by unfold carsM; rw [if_neg (by omega)]
      have hz := carsZ_lt2 s q 0 (s.1 2)
      have hp : 2 ^ s.1 2 ≤ 2 ^ 4 := Nat.pow_le_pow_right (by decide) hnc
      refine r_iload g dX4_ableCars_7 rfl ?_
      refine r_aload_n g dX4_ableCars_9 rfl ?_
      refine r_getf g fX4_11 hB.1 rfl dX4_ableCars_10 ?_
      refine r_alen g hB.2.1 (by decide) dX4_ableCars_13 ?_
      refine r_icmp_ge 88 g dX4_ableCars_14 (by decide) (fun c14 => ?_) (fun c14 => absurd (show nI 4 ≤ nI 4 by decide) c14)
      refine r_iload_n g dX4_ableCars_88 rfl ?_
      refine r_if_eq 96 g dX4_ableCars_89 (by decide) (fun c89 => ?_) (fun c89 => ?_)
      · skip
        have q9 := eq0 (by omega) c89
        refine r_iload_n g dX4_ableCars_96 rfl ?_
        exact r_iret g hr (Nat.le_refl _) (Nat.le_refl _) dX4_ableCars_97 ⟨congrArg (fun z => some (Value.int (nI z))) (by unfold carsN; rw [if_pos (by rw [← h0]; exact q9), h1]), rfl, rfl⟩
      · skip
        have q9 : ¬ carsM s q 0 4 = 0 := fun z => c89 (by rw [z]; rfl)
        refine r_iload_n g dX4_ableCars_92 rfl ?_
        refine r_goto 97 g dX4_ableCars_93 (by decide) ?_
        exact r_iret g hr (Nat.le_refl _) (Nat.le_refl _) dX4_ableCars_97 ⟨congrArg (fun z => some (Value.int (nI z))) (by unfold carsN; rw [if_neg (by rw [← h0]; exact q9), h0]), rfl, rfl⟩
    | succ e ih =>
      intro i hi
      by_cases hcc : i < s.1 2
      · skip
        have hz0 := carsZ_lt2 s q 0 i
        have hz1 := carsZ_lt2 s q 1 i
        have hc9 := hA.2.2.2.2.1 i hcc
        obtain ⟨hm0, hm0s⟩ := carsM_s (q := q) (z := 0) hcc
        obtain ⟨hm1, hm1s⟩ := carsM_s (q := q) (z := 1) hcc
        refine r_iload g dX4_ableCars_7 rfl ?_
        refine r_aload_n g dX4_ableCars_9 rfl ?_
        refine r_getf g fX4_11 hB.1 rfl dX4_ableCars_10 ?_
        refine r_alen g hB.2.1 (by decide) dX4_ableCars_13 ?_
        refine r_icmp_ge 88 g dX4_ableCars_14 (by decide) (fun c14 => absurd c14 (nI_ge (b := 4) (by omega) (by decide))) (fun c14 => ?_)
        refine r_aload_n g dX4_ableCars_17 rfl ?_
        refine r_getf g fX4_11 hB.1 rfl dX4_ableCars_18 ?_
        refine r_iload g dX4_ableCars_21 rfl ?_
        refine r_aaldR (t := 0) (j := i) (v := (la i)) g hB.2.1 (by decide) (if_pos hcc) rfl (by omega) (by decide) dX4_ableCars_23 ?_
        refine r_astore g dX4_ableCars_24 rfl rfl rfl ?_
        refine r_aload g dX4_ableCars_26 rfl ?_
        refine r_ifnull g dX4_ableCars_28 ?_
        refine r_aload g dX4_ableCars_31 rfl ?_
        refine r_aload_n g dX4_ableCars_33 rfl ?_
        refine r_pV g kX4_117 (ok_c_reaches _ _ _ _ (cs := cs) (c := i) (q := q) hA (by omega) (by omega) (hB.2.2.2.1 i hcc).1 hRd) (hB.2.2.2.1 i hcc).1 rfl rfl rfl hnx hR (by decide) (Nat.zero_le _) (Nat.zero_le _) rfl rfl dX4_ableCars_34 ?_
        refine r_if_eq 82 g dX4_ableCars_37 (by decide) (fun c37 => ?_) (fun c37 => ?_)
        · skip
          have q1 := b2_f c37
          have hn : mayB s i q = false := mayB_w q1
          refine r_iinc (v := (nI (i + 1))) g dX4_ableCars_82 rfl (nI_add i 1) rfl rfl ?_
          refine r_goto 7 g dX4_ableCars_85 (by decide) ?_
          have e0 : carsM s q 0 (i + 1) = carsM s q 0 i := by rw [hm0s, hm0]; exact carsZ_0 (fun z => by rw [hn] at z; cases z.1)
          have e1 : carsM s q 1 (i + 1) = carsM s q 1 i := by rw [hm1s, hm1]; exact carsZ_0 (fun z => by rw [hn] at z; cases z.1)
          refine r_le (ls2 := [some (.ref x), some (.ref b), some (.int (nI (carsM s q 0 i))), some (.int (nI (carsM s q 1 i))), some (.int (nI (i + 1))), none]) ⟨rfl, rfl, rfl, rfl, rfl, trivial⟩ ?_
          rw [← e0, ← e1]
          exact ih (i + 1) (by omega)
        · skip
          have q1 := b2_t c37
          refine r_aload_n g dX4_ableCars_40 rfl ?_
          refine r_getf g fX4_125 hRd rfl dX4_ableCars_41 ?_
          refine r_iconst (v := (-1)) g dX4_ableCars_44 (by decide) ?_
          refine r_icmp_eq 57 g dX4_ableCars_45 (by decide) (fun c45 => ?_) (fun c45 => ?_)
          · skip
            have q2 : s.2.2 q 5 = 4 ∨ s.2.2 q 5 = i := Or.inl ((beI_m hk9.2.2.2.2.2.1).mp c45)
            refine r_aload g dX4_ableCars_57 rfl ?_
            refine r_getf g fX4_86 (hB.2.2.2.1 i hcc).1 rfl dX4_ableCars_59 ?_
            have hy : mayB s i q = true := mayB_t q1 q2
            refine r_if_eq 75 g dX4_ableCars_62 (by decide) (fun c62 => ?_) (fun c62 => ?_)
            · skip
              have q3 := eq0 (by omega) c62
              refine r_iload_n g dX4_ableCars_75 rfl ?_
              refine r_iconst (v := 1) g dX4_ableCars_76 (by decide) ?_
              refine r_iload g dX4_ableCars_77 rfl ?_
              refine r_ishl g dX4_ableCars_79 ?_
              refine r_topi (y := (nI (2 ^ i))) (shl1 (by omega)) ?_
              refine r_ior g dX4_ableCars_80 ?_
              refine r_topi (y := (nI (carsM s q 0 i + 2 ^ i))) (by rw [hm0, nI_or, or_pow hz0]) ?_
              refine r_istore_n g dX4_ableCars_81 rfl rfl rfl ?_
              refine r_iinc (v := (nI (i + 1))) g dX4_ableCars_82 rfl (nI_add i 1) rfl rfl ?_
              refine r_goto 7 g dX4_ableCars_85 (by decide) ?_
              have e0 : carsM s q 0 (i + 1) = carsM s q 0 i + 2 ^ i := by rw [hm0s, hm0]; exact carsZ_1 hy q3
              have e1 : carsM s q 1 (i + 1) = carsM s q 1 i := by rw [hm1s, hm1]; exact carsZ_0 (fun z => by rw [q3] at z; cases z.2)
              refine r_le (ls2 := [some (.ref x), some (.ref b), some (.int (nI (carsM s q 0 i + 2 ^ i))), some (.int (nI (carsM s q 1 i))), some (.int (nI (i + 1))), none]) ⟨rfl, rfl, rfl, rfl, rfl, trivial⟩ ?_
              rw [← e0, ← e1]
              exact ih (i + 1) (by omega)
            · skip
              have q3 := nz1 (by omega) c62
              refine r_iload_n g dX4_ableCars_65 rfl ?_
              refine r_iconst (v := 1) g dX4_ableCars_66 (by decide) ?_
              refine r_iload g dX4_ableCars_67 rfl ?_
              refine r_ishl g dX4_ableCars_69 ?_
              refine r_topi (y := (nI (2 ^ i))) (shl1 (by omega)) ?_
              refine r_ior g dX4_ableCars_70 ?_
              refine r_topi (y := (nI (carsM s q 1 i + 2 ^ i))) (by rw [hm1, nI_or, or_pow hz1]) ?_
              refine r_istore_n g dX4_ableCars_71 rfl rfl rfl ?_
              refine r_goto 82 g dX4_ableCars_72 (by decide) ?_
              refine r_iinc (v := (nI (i + 1))) g dX4_ableCars_82 rfl (nI_add i 1) rfl rfl ?_
              refine r_goto 7 g dX4_ableCars_85 (by decide) ?_
              have e0 : carsM s q 0 (i + 1) = carsM s q 0 i := by rw [hm0s, hm0]; exact carsZ_0 (fun z => by rw [q3] at z; cases z.2)
              have e1 : carsM s q 1 (i + 1) = carsM s q 1 i + 2 ^ i := by rw [hm1s, hm1]; exact carsZ_1 hy q3
              refine r_le (ls2 := [some (.ref x), some (.ref b), some (.int (nI (carsM s q 0 i))), some (.int (nI (carsM s q 1 i + 2 ^ i))), some (.int (nI (i + 1))), none]) ⟨rfl, rfl, rfl, rfl, rfl, trivial⟩ ?_
              rw [← e0, ← e1]
              exact ih (i + 1) (by omega)
          · skip
            have q2n : ¬ s.2.2 q 5 = 4 := fun z => c45 ((beI_m hk9.2.2.2.2.2.1).mpr z)
            refine r_aload_n g dX4_ableCars_48 rfl ?_
            refine r_getf g fX4_125 hRd rfl dX4_ableCars_49 ?_
            refine r_iload g dX4_ableCars_52 rfl ?_
            refine r_icmp_ne 82 g dX4_ableCars_54 (by decide) (fun c54 => ?_) (fun c54 => ?_)
            · skip
              have hn : mayB s i q = false := mayB_b (fun z => z.elim q2n (fun y => c54 ((beI_c hk9.2.2.2.2.2.1 (by omega)).mpr y)))
              refine r_iinc (v := (nI (i + 1))) g dX4_ableCars_82 rfl (nI_add i 1) rfl rfl ?_
              refine r_goto 7 g dX4_ableCars_85 (by decide) ?_
              have e0 : carsM s q 0 (i + 1) = carsM s q 0 i := by rw [hm0s, hm0]; exact carsZ_0 (fun z => by rw [hn] at z; cases z.1)
              have e1 : carsM s q 1 (i + 1) = carsM s q 1 i := by rw [hm1s, hm1]; exact carsZ_0 (fun z => by rw [hn] at z; cases z.1)
              refine r_le (ls2 := [some (.ref x), some (.ref b), some (.int (nI (carsM s q 0 i))), some (.int (nI (carsM s q 1 i))), some (.int (nI (i + 1))), none]) ⟨rfl, rfl, rfl, rfl, rfl, trivial⟩ ?_
              rw [← e0, ← e1]
              exact ih (i + 1) (by omega)
            · skip
              have q2 : s.2.2 q 5 = 4 ∨ s.2.2 q 5 = i := Or.inr ((beI_c hk9.2.2.2.2.2.1 (by omega)).mp c54)
              refine r_aload g dX4_ableCars_57 rfl ?_
              refine r_getf g fX4_86 (hB.2.2.2.1 i hcc).1 rfl dX4_ableCars_59 ?_
              have hy : mayB s i q = true := mayB_t q1 q2
              refine r_if_eq 75 g dX4_ableCars_62 (by decide) (fun c62 => ?_) (fun c62 => ?_)
              · skip
                have q3 := eq0 (by omega) c62
                refine r_iload_n g dX4_ableCars_75 rfl ?_
                refine r_iconst (v := 1) g dX4_ableCars_76 (by decide) ?_
                refine r_iload g dX4_ableCars_77 rfl ?_
                refine r_ishl g dX4_ableCars_79 ?_
                refine r_topi (y := (nI (2 ^ i))) (shl1 (by omega)) ?_
                refine r_ior g dX4_ableCars_80 ?_
                refine r_topi (y := (nI (carsM s q 0 i + 2 ^ i))) (by rw [hm0, nI_or, or_pow hz0]) ?_
                refine r_istore_n g dX4_ableCars_81 rfl rfl rfl ?_
                refine r_iinc (v := (nI (i + 1))) g dX4_ableCars_82 rfl (nI_add i 1) rfl rfl ?_
                refine r_goto 7 g dX4_ableCars_85 (by decide) ?_
                have e0 : carsM s q 0 (i + 1) = carsM s q 0 i + 2 ^ i := by rw [hm0s, hm0]; exact carsZ_1 hy q3
                have e1 : carsM s q 1 (i + 1) = carsM s q 1 i := by rw [hm1s, hm1]; exact carsZ_0 (fun z => by rw [q3] at z; cases z.2)
                refine r_le (ls2 := [some (.ref x), some (.ref b), some (.int (nI (carsM s q 0 i + 2 ^ i))), some (.int (nI (carsM s q 1 i))), some (.int (nI (i + 1))), none]) ⟨rfl, rfl, rfl, rfl, rfl, trivial⟩ ?_
                rw [← e0, ← e1]
                exact ih (i + 1) (by omega)
              · skip
                have q3 := nz1 (by omega) c62
                refine r_iload_n g dX4_ableCars_65 rfl ?_
                refine r_iconst (v := 1) g dX4_ableCars_66 (by decide) ?_
                refine r_iload g dX4_ableCars_67 rfl ?_
                refine r_ishl g dX4_ableCars_69 ?_
                refine r_topi (y := (nI (2 ^ i))) (shl1 (by omega)) ?_
                refine r_ior g dX4_ableCars_70 ?_
                refine r_topi (y := (nI (carsM s q 1 i + 2 ^ i))) (by rw [hm1, nI_or, or_pow hz1]) ?_
                refine r_istore_n g dX4_ableCars_71 rfl rfl rfl ?_
                refine r_goto 82 g dX4_ableCars_72 (by decide) ?_
                refine r_iinc (v := (nI (i + 1))) g dX4_ableCars_82 rfl (nI_add i 1) rfl rfl ?_
                refine r_goto 7 g dX4_ableCars_85 (by decide) ?_
                have e0 : carsM s q 0 (i + 1) = carsM s q 0 i := by rw [hm0s, hm0]; exact carsZ_0 (fun z => by rw [q3] at z; cases z.2)
                have e1 : carsM s q 1 (i + 1) = carsM s q 1 i + 2 ^ i := by rw [hm1s, hm1]; exact carsZ_1 hy q3
                refine r_le (ls2 := [some (.ref x), some (.ref b), some (.int (nI (carsM s q 0 i))), some (.int (nI (carsM s q 1 i + 2 ^ i))), some (.int (nI (i + 1))), none]) ⟨rfl, rfl, rfl, rfl, rfl, trivial⟩ ?_
                rw [← e0, ← e1]
                exact ih (i + 1) (by omega)
      · skip
        refine r_iload g dX4_ableCars_7 rfl ?_
        refine r_aload_n g dX4_ableCars_9 rfl ?_
        refine r_getf g fX4_11 hB.1 rfl dX4_ableCars_10 ?_
        refine r_alen g hB.2.1 (by decide) dX4_ableCars_13 ?_
        refine r_icmp_ge 88 g dX4_ableCars_14 (by decide) (fun c14 => absurd c14 (nI_ge (b := 4) (by omega) (by decide))) (fun c14 => ?_)
        refine r_aload_n g dX4_ableCars_17 rfl ?_
        refine r_getf g fX4_11 hB.1 rfl dX4_ableCars_18 ?_
        refine r_iload g dX4_ableCars_21 rfl ?_
        refine r_aaldN (t := 0) (j := i) g hB.2.1 (by decide) (if_neg hcc) rfl (by omega) (by decide) dX4_ableCars_23 ?_
        refine r_astoreN g dX4_ableCars_24 rfl rfl rfl ?_
        refine r_aloadN g dX4_ableCars_26 rfl ?_
        refine r_ifnullN 82 g dX4_ableCars_28 (by decide) ?_
        refine r_iinc (v := (nI (i + 1))) g dX4_ableCars_82 rfl (nI_add i 1) rfl rfl ?_
        refine r_goto 7 g dX4_ableCars_85 (by decide) ?_
        refine r_le (ls2 := [some (.ref x), some (.ref b), some (.int (nI (carsM s q 0 i))), some (.int (nI (carsM s q 1 i))), some (.int (nI (i + 1))), none]) ⟨rfl, rfl, rfl, rfl, rfl, trivial⟩ ?_
        rw [← carsM_up hcc, ← carsM_up (z := 1) hcc]
        exact ih (i + 1) (by omega)
  have z0 : ∀ z, Value.int 0 = Value.int (nI (carsM s q z 0)) := fun z => by
    unfold carsM
    split
    · rfl
    · next h0 => rw [show s.1 2 = 0 by omega]; rfl
  refine r_iconst (v := 0) g dX4_ableCars_0 (by decide) ?_
  refine r_istore_n g dX4_ableCars_1 rfl rfl rfl ?_
  refine r_iconst (v := 0) g dX4_ableCars_2 (by decide) ?_
  refine r_istore_n g dX4_ableCars_3 rfl rfl rfl ?_
  refine r_iconst (v := 0) g dX4_ableCars_4 (by decide) ?_
  refine r_istore g dX4_ableCars_5 rfl rfl rfl ?_
  refine r_le (ls2 := [some (.ref x), some (.ref b), some (.int (nI (carsM s q 0 0))), some (.int (nI (carsM s q 1 0))), some (.int (nI 0)), none]) ⟨rfl, rfl, z0 0, z0 1, rfl, trivial⟩ ?_
  exact loop 4 0 rfl
theorem othB_t {s : AS} {q c j : Nat} : ∀ n, j < n → j ≠ q → isOp s j = true → s.2.2 j 5 = c → othB s q c n = true
  | 0, h, _, _, _ => absurd h (Nat.not_lt_zero _)
  | n + 1, h, h1, h2, h3 => by
    unfold othB
    by_cases e : j = n
    · subst e
      rw [decide_eq_true h1, h2, decide_eq_true h3, Bool.or_eq_true]
      exact Or.inr rfl
    · rw [othB_t n (by omega) h1 h2 h3, Bool.true_or]
theorem othB_f {s : AS} {q c : Nat} : ∀ n, (∀ j, j < n → j ≠ q → isOp s j = true → s.2.2 j 5 ≠ c) → othB s q c n = false
  | 0, _ => rfl
  | n + 1, h => by
    unfold othB
    rw [othB_f n (fun j hj => h j (by omega)), Bool.false_or]
    by_cases e1 : n ≠ q
    · cases e2 : isOp s n with
      | false => rw [Bool.and_false, Bool.false_and]
      | true => rw [decide_eq_false (h n (Nat.lt_succ_self n) e1 e2), Bool.and_false]
    · rw [decide_eq_false e1, Bool.false_and, Bool.false_and]
theorem oc_ex {s : AS} {j : Nat} (h : j < s.1 3) (ho : isOp s j = true) : ∃ i, i < nOp s ∧ oc s i = j := by
  have hm : j ∈ oL s := by
    unfold oL
    rw [List.mem_filter, List.mem_range]
    exact ⟨h, ho⟩
  obtain ⟨i, hi, e⟩ := List.mem_iff_getElem.mp hm
  have hi2 : i < nOp s := by rw [← oL_len]; exact hi
  exact ⟨i, hi2, (oc_get hi2).trans e⟩

set_option maxHeartbeats 4000000 in
set_option maxRecDepth 100000 in
theorem ok_c_hasBegunAnother (l : Launch) (G : Nat → ClassId) (D : va_G) (base : Nat) {h : Hp} {nx x : Nat} {s : AS} {la ra cs : Nat → Nat} (hA : AI s) (hB : CB h x s la ra cs) {lo : Nat} (hLo : CLo s x lo nx la ra) {c w : Nat} (hc4 : c < 4) (hw : w < nOp s) : MetP l G D base miX4_hasBegunAnother 0 0 0 [.ref x, .int (nI c), .ref (ra w)] h nx (Kv (.int (b2 (othB s (oc s w) c (s.1 3)))) h nx) := by
  refine MetP_of (by decide +kernel) rfl ?_
  intro k g hr hR hcl hcg hcd hcb hcn hnx
  subst hcl; subst hcg; subst hcd; subst hcb
  obtain ⟨⟨hn1, hn2⟩, ht, hnc, hN, -⟩ := id hA
  have hop := hA.2.2.2.2.2.2.1
  show Sf k 0 0 h nx 0 [some (.ref x), some (.int (nI c)), some (.ref (ra w)), none, none, none, none] []
  have loop : ∀ e i, i + e = 6 → (∀ j, j < i → j < nOp s → j ≠ w → s.2.2 (oc s j) 5 ≠ c) → Sf k 0 0 h nx 12 [some (.ref x), some (.int (nI c)), some (.ref (ra w)), some (.ref (x + 2)), some (.int (nI 6)), some (.int (nI i)), none] [] := by
    intro e
    induction e with
    | zero =>
      intro i hi hno
      have hi2 : i = 6 := by omega
      subst hi2
      refine r_iload g dX4_hasBegunAnother_12 rfl ?_
      refine r_iload g dX4_hasBegunAnother_14 rfl ?_
      refine r_icmp_ge 53 g dX4_hasBegunAnother_16 (by decide) (fun c16 => ?_) (fun c16 => absurd (show nI 6 ≤ nI 6 by decide) c16)
      refine r_iconst (v := 0) g dX4_hasBegunAnother_53 (by decide) ?_
      have q : othB s (oc s w) c (s.1 3) = false := othB_f _ (fun j hj hne ho => by
        obtain ⟨i, hi, rfl⟩ := oc_ex hj ho
        exact hno i (by omega) hi (fun z => hne (by rw [z])))
      exact r_zret g hr (Nat.le_refl _) (Nat.le_refl _) dX4_hasBegunAnother_54 rfl ⟨congrArg (fun z => some (Value.int z)) (by rw [q]; rfl), rfl, rfl⟩
    | succ e ih =>
      intro i hi hno
      by_cases hii : i < nOp s
      · skip
        have hk9 := hA.2.2.2.2.2.1 _ (oc_at hii).1
        refine r_iload g dX4_hasBegunAnother_12 rfl ?_
        refine r_iload g dX4_hasBegunAnother_14 rfl ?_
        refine r_icmp_ge 53 g dX4_hasBegunAnother_16 (by decide) (fun c16 => absurd c16 (nI_ge (b := 6) (by omega) (by decide))) (fun c16 => ?_)
        refine r_aload_n g dX4_hasBegunAnother_19 rfl ?_
        refine r_iload g dX4_hasBegunAnother_20 rfl ?_
        refine r_aaldR (t := 1) (j := i) (v := (ra i)) g hB.2.2.1 (by decide) (if_pos hii) rfl (by omega) (by decide) dX4_hasBegunAnother_22 ?_
        refine r_astore g dX4_hasBegunAnother_23 rfl rfl rfl ?_
        refine r_aload g dX4_hasBegunAnother_25 rfl ?_
        refine r_ifnull g dX4_hasBegunAnother_27 ?_
        refine r_aload g dX4_hasBegunAnother_30 rfl ?_
        refine r_aload_n g dX4_hasBegunAnother_32 rfl ?_
        refine r_acmp_eq (rx := some (ra i)) (ry := some (ra w)) 47 g dX4_hasBegunAnother_33 (by decide) (fun c33 => ?_) (fun c33 => ?_)
        · skip
          have hiw : i = w := by
            have e9 := Option.some.inj c33
            rcases Nat.lt_trichotomy i w with z | z | z
            · have := hLo.2.2.2.2.2.1 i w z hw; omega
            · exact z
            · have := hLo.2.2.2.2.2.1 w i z hii; omega
          refine r_iinc (v := (nI (i + 1))) g dX4_hasBegunAnother_47 rfl (nI_add i 1) rfl rfl ?_
          refine r_goto 12 g dX4_hasBegunAnother_50 (by decide) ?_
          refine r_le (ls2 := [some (.ref x), some (.int (nI c)), some (.ref (ra w)), some (.ref (x + 2)), some (.int (nI 6)), some (.int (nI (i + 1))), none]) ⟨rfl, rfl, rfl, rfl, rfl, rfl, trivial⟩ ?_
          refine ih (i + 1) (by omega) (fun j hj hjn hjw => ?_)
          by_cases e9 : j = i
          · exact absurd e9 (fun z => hjw (z.trans hiw))
          · exact hno j (by omega) hjn hjw
        · skip
          have hiw : i ≠ w := fun z => c33 (by rw [z])
          refine r_aload g dX4_hasBegunAnother_36 rfl ?_
          refine r_getf g fX4_125 (hB.2.2.2.2 i hii) rfl dX4_hasBegunAnother_38 ?_
          refine r_iload_n g dX4_hasBegunAnother_41 rfl ?_
          refine r_icmp_ne 47 g dX4_hasBegunAnother_42 (by decide) (fun c42 => ?_) (fun c42 => ?_)
          · skip
            have q5 : s.2.2 (oc s i) 5 ≠ c := fun z => c42 ((beI_c hk9.2.2.2.2.2.1 hc4).mpr z)
            refine r_iinc (v := (nI (i + 1))) g dX4_hasBegunAnother_47 rfl (nI_add i 1) rfl rfl ?_
            refine r_goto 12 g dX4_hasBegunAnother_50 (by decide) ?_
            refine r_le (ls2 := [some (.ref x), some (.int (nI c)), some (.ref (ra w)), some (.ref (x + 2)), some (.int (nI 6)), some (.int (nI (i + 1))), none]) ⟨rfl, rfl, rfl, rfl, rfl, rfl, trivial⟩ ?_
            refine ih (i + 1) (by omega) (fun j hj hjn hjw => ?_)
            by_cases e9 : j = i
            · subst e9; exact q5
            · exact hno j (by omega) hjn hjw
          · skip
            have q5 : s.2.2 (oc s i) 5 = c := (beI_c hk9.2.2.2.2.2.1 hc4).mp c42
            refine r_iconst (v := 1) g dX4_hasBegunAnother_45 (by decide) ?_
            have q : othB s (oc s w) c (s.1 3) = true := othB_t _ (oc_at hii).1 (fun z => hiw (oc_inj hii hw z)) (oc_at hii).2 q5
            exact r_zret g hr (Nat.le_refl _) (Nat.le_refl _) dX4_hasBegunAnother_46 rfl ⟨congrArg (fun z => some (Value.int z)) (by rw [q]; rfl), rfl, rfl⟩
      · skip
        refine r_iload g dX4_hasBegunAnother_12 rfl ?_
        refine r_iload g dX4_hasBegunAnother_14 rfl ?_
        refine r_icmp_ge 53 g dX4_hasBegunAnother_16 (by decide) (fun c16 => absurd c16 (nI_ge (b := 6) (by omega) (by decide))) (fun c16 => ?_)
        refine r_aload_n g dX4_hasBegunAnother_19 rfl ?_
        refine r_iload g dX4_hasBegunAnother_20 rfl ?_
        refine r_aaldN (t := 1) (j := i) g hB.2.2.1 (by decide) (if_neg hii) rfl (by omega) (by decide) dX4_hasBegunAnother_22 ?_
        refine r_astoreN g dX4_hasBegunAnother_23 rfl rfl rfl ?_
        refine r_aloadN g dX4_hasBegunAnother_25 rfl ?_
        refine r_ifnullN 47 g dX4_hasBegunAnother_27 (by decide) ?_
        refine r_iinc (v := (nI (i + 1))) g dX4_hasBegunAnother_47 rfl (nI_add i 1) rfl rfl ?_
        refine r_goto 12 g dX4_hasBegunAnother_50 (by decide) ?_
        refine r_le (ls2 := [some (.ref x), some (.int (nI c)), some (.ref (ra w)), some (.ref (x + 2)), some (.int (nI 6)), some (.int (nI (i + 1))), none]) ⟨rfl, rfl, rfl, rfl, rfl, rfl, trivial⟩ ?_
        exact ih (i + 1) (by omega) (fun j hj hjn => hno j (by omega) hjn)
  refine r_aload_n g dX4_hasBegunAnother_0 rfl ?_
  refine r_getf g fX4_17 hB.1 rfl dX4_hasBegunAnother_1 ?_
  refine r_astore_n g dX4_hasBegunAnother_4 rfl rfl rfl ?_
  refine r_aload_n g dX4_hasBegunAnother_5 rfl ?_
  refine r_alen g hB.2.2.1 (by decide) dX4_hasBegunAnother_6 ?_
  refine r_istore g dX4_hasBegunAnother_7 rfl rfl rfl ?_
  refine r_iconst (v := 0) g dX4_hasBegunAnother_9 (by decide) ?_
  refine r_istore g dX4_hasBegunAnother_10 rfl rfl rfl ?_
  refine r_le (ls2 := [some (.ref x), some (.int (nI c)), some (.ref (ra w)), some (.ref (x + 2)), some (.int (nI 6)), some (.int (nI 0)), none]) ⟨rfl, rfl, rfl, rfl, rfl, rfl, trivial⟩ ?_
  exact loop 6 0 rfl (fun j hj => absurd hj (Nat.not_lt_zero _))
set_option maxHeartbeats 4000000 in
set_option maxRecDepth 100000 in
theorem ok_c_open (l : Launch) (G : Nat → ClassId) (D : va_G) (base : Nat) {h : Hp} {nx x : Nat} {s : AS} {la ra cs : Nat → Nat} (hA : AI s) (hB : CB h x s la ra cs) : MetP l G D base miX4_open 0 0 0 [.ref x] h nx (Kv (.int (nI (nOp s))) h nx) := by
  refine MetP_of (by decide +kernel) rfl ?_
  intro k g hr hR hcl hcg hcd hcb hcn hnx
  subst hcl; subst hcg; subst hcd; subst hcb
  show Sf k 0 0 h nx 0 [some (.ref x)] []
  refine r_aload_n g dX4_open_0 rfl ?_
  refine r_getf g fX4_92 hB.1 rfl dX4_open_1 ?_
  exact r_iret g hr (Nat.le_refl _) (Nat.le_refl _) dX4_open_4 ⟨rfl, rfl, rfl⟩
def lftC (s : AS) (i : Nat) : Nat := cnt (fun j => decide (carsN s (oc s j) = 0)) (if i < nOp s then i else nOp s)
theorem lftC_up {s : AS} {i : Nat} (h : ¬ i < nOp s) : lftC s (i + 1) = lftC s i := by
  unfold lftC
  rw [if_neg h, if_neg (by omega)]
theorem lftC_s {s : AS} {i : Nat} (h : i < nOp s) : lftC s (i + 1) = lftC s i + (if carsN s (oc s i) = 0 then 1 else 0) := by
  have e : lftC s (i + 1) = cnt (fun j => decide (carsN s (oc s j) = 0)) (i + 1) := by
    unfold lftC
    by_cases e : i + 1 < nOp s
    · rw [if_pos e]
    · rw [if_neg e]; congr 1; omega
  rw [e]
  unfold lftC
  rw [if_pos h]
  show _ + (if decide (carsN s (oc s i) = 0) = true then 1 else 0) = _
  by_cases e : carsN s (oc s i) = 0
  · rw [if_pos e, decide_eq_true e]; rfl
  · rw [if_neg e, decide_eq_false e]; rfl
theorem cnt_get (p : Nat → Bool) (l : List Nat) : ∀ n, n ≤ l.length → ((l.take n).filter p).length = cnt (fun j => p (l.getD j 0)) n
  | 0, _ => rfl
  | n + 1, h => by
    rw [List.take_succ_eq_append_getElem (show n < l.length by omega), List.filter_append, List.length_append, cnt_get p l n (by omega)]
    show _ = cnt (fun j => p (l.getD j 0)) n + (if p (l.getD n 0) = true then 1 else 0)
    have e2 : l.getD n 0 = l[n] := by rw [List.getD_eq_getElem?_getD, List.getElem?_eq_getElem (by omega)]; rfl
    rw [e2]
    by_cases h : p l[n] = true
    · simp [h]
    · simp [h]
theorem lft_all (s : AS) : cnt (fun j => decide (carsN s (oc s j) = 0)) (nOp s) = leftN s := by
  have h := cnt_get (fun j => decide (carsN s j = 0)) (oL s) _ (Nat.le_refl _)
  rw [List.take_length, oL_len] at h
  rw [show (fun j => decide (carsN s (oc s j) = 0)) = (fun j => (fun j => decide (carsN s j = 0)) ((oL s).getD j 0)) from rfl, ← h]
  unfold oL leftN
  rw [List.filter_filter, filt_len]
  exact cnt_cong (fun q _ => Bool.and_comm _ _)
theorem lftC_le (s : AS) (i : Nat) : lftC s i ≤ nOp s := by
  unfold lftC
  refine Nat.le_trans (cnt_le _ _) ?_
  split <;> omega

set_option maxHeartbeats 4000000 in
set_option maxRecDepth 100000 in
theorem ok_c_left (l : Launch) (G : Nat → ClassId) (D : va_G) (base : Nat) {h : Hp} {nx x : Nat} {s : AS} {la ra cs : Nat → Nat} (hA : AI s) (hB : CB h x s la ra cs) : MetP l G D base miX4_left 3 0 0 [.ref x] h nx (Kv (.int (nI (leftN s))) h nx) := by
  refine MetP_of (by decide +kernel) rfl ?_
  intro k g hr hR hcl hcg hcd hcb hcn hnx
  subst hcl; subst hcg; subst hcd; subst hcb
  obtain ⟨⟨hn1, hn2⟩, ht, hnc, hN, -⟩ := id hA
  have hop := hA.2.2.2.2.2.2.1
  show Sf k 0 0 h nx 0 [some (.ref x), none, none, none, none, none] []
  have loop : ∀ e i, i + e = 6 → Sf k 0 0 h nx 13 [some (.ref x), some (.int (nI (lftC s i))), some (.ref (x + 2)), some (.int (nI 6)), some (.int (nI i)), none] [] := by
    intro e
    induction e with
    | zero =>
      intro i hi
      have hi2 : i = 6 := by omega
      subst hi2
      refine r_iload g dX4_left_13 rfl ?_
      refine r_iload_n g dX4_left_15 rfl ?_
      refine r_icmp_ge 48 g dX4_left_16 (by decide) (fun c16 => ?_) (fun c16 => absurd (show nI 6 ≤ nI 6 by decide) c16)
      refine r_iload_n g dX4_left_48 rfl ?_
      have q : lftC s 6 = leftN s := by unfold lftC; rw [if_neg (by omega)]; exact lft_all s
      exact r_iret g hr (Nat.le_refl _) (Nat.le_refl _) dX4_left_49 ⟨congrArg (fun z => some (Value.int (nI z))) q, rfl, rfl⟩
    | succ e ih =>
      intro i hi
      by_cases hii : i < nOp s
      · skip
        have hcl := carsN_lt hA (oc s i)
        have hoc := (oc_at hii).1
        refine r_iload g dX4_left_13 rfl ?_
        refine r_iload_n g dX4_left_15 rfl ?_
        refine r_icmp_ge 48 g dX4_left_16 (by decide) (fun c16 => absurd c16 (nI_ge (b := 6) (by omega) (by decide))) (fun c16 => ?_)
        refine r_aload_n g dX4_left_19 rfl ?_
        refine r_iload g dX4_left_20 rfl ?_
        refine r_aaldR (t := 1) (j := i) (v := (ra i)) g hB.2.2.1 (by decide) (if_pos hii) rfl (by omega) (by decide) dX4_left_22 ?_
        refine r_astore g dX4_left_23 rfl rfl rfl ?_
        refine r_aload g dX4_left_25 rfl ?_
        refine r_ifnull g dX4_left_27 ?_
        refine r_aload_n g dX4_left_30 rfl ?_
        refine r_aload g dX4_left_31 rfl ?_
        refine r_pV g kX4_137 (ok_c_ableCars _ _ _ _ hA hB (q := (oc s i)) hoc (hB.2.2.2.2 i hii)) hB.1 rfl rfl rfl hnx hR (by decide) (Nat.zero_le _) (Nat.zero_le _) rfl rfl dX4_left_33 ?_
        refine r_if_ne 42 g dX4_left_36 (by decide) (fun c36 => ?_) (fun c36 => ?_)
        · skip
          have q : ¬ carsN s (oc s i) = 0 := fun z => c36 (by rw [z]; rfl)
          refine r_iinc (v := (nI (i + 1))) g dX4_left_42 rfl (nI_add i 1) rfl rfl ?_
          refine r_goto 13 g dX4_left_45 (by decide) ?_
          have e9 : lftC s (i + 1) = lftC s i := by rw [lftC_s hii, if_neg q]; rfl
          refine r_le (ls2 := [some (.ref x), some (.int (nI (lftC s i))), some (.ref (x + 2)), some (.int (nI 6)), some (.int (nI (i + 1))), none]) ⟨rfl, rfl, rfl, rfl, rfl, trivial⟩ ?_
          rw [← e9]
          exact ih (i + 1) (by omega)
        · skip
          have q := eq0 (by omega) c36
          refine r_iinc (v := (nI (lftC s i + 1))) g dX4_left_39 rfl (nI_add (lftC s i) 1) rfl rfl ?_
          refine r_iinc (v := (nI (i + 1))) g dX4_left_42 rfl (nI_add i 1) rfl rfl ?_
          refine r_goto 13 g dX4_left_45 (by decide) ?_
          have e9 : lftC s (i + 1) = lftC s i + 1 := by rw [lftC_s hii, if_pos q]
          refine r_le (ls2 := [some (.ref x), some (.int (nI (lftC s i + 1))), some (.ref (x + 2)), some (.int (nI 6)), some (.int (nI (i + 1))), none]) ⟨rfl, rfl, rfl, rfl, rfl, trivial⟩ ?_
          rw [← e9]
          exact ih (i + 1) (by omega)
      · skip
        refine r_iload g dX4_left_13 rfl ?_
        refine r_iload_n g dX4_left_15 rfl ?_
        refine r_icmp_ge 48 g dX4_left_16 (by decide) (fun c16 => absurd c16 (nI_ge (b := 6) (by omega) (by decide))) (fun c16 => ?_)
        refine r_aload_n g dX4_left_19 rfl ?_
        refine r_iload g dX4_left_20 rfl ?_
        refine r_aaldN (t := 1) (j := i) g hB.2.2.1 (by decide) (if_neg hii) rfl (by omega) (by decide) dX4_left_22 ?_
        refine r_astoreN g dX4_left_23 rfl rfl rfl ?_
        refine r_aloadN g dX4_left_25 rfl ?_
        refine r_ifnullN 42 g dX4_left_27 (by decide) ?_
        refine r_iinc (v := (nI (i + 1))) g dX4_left_42 rfl (nI_add i 1) rfl rfl ?_
        refine r_goto 13 g dX4_left_45 (by decide) ?_
        refine r_le (ls2 := [some (.ref x), some (.int (nI (lftC s i))), some (.ref (x + 2)), some (.int (nI 6)), some (.int (nI (i + 1))), none]) ⟨rfl, rfl, rfl, rfl, rfl, trivial⟩ ?_
        rw [← lftC_up hii]
        exact ih (i + 1) (by omega)
  refine r_iconst (v := 0) g dX4_left_0 (by decide) ?_
  refine r_istore_n g dX4_left_1 rfl rfl rfl ?_
  refine r_aload_n g dX4_left_2 rfl ?_
  refine r_getf g fX4_17 hB.1 rfl dX4_left_3 ?_
  refine r_astore_n g dX4_left_6 rfl rfl rfl ?_
  refine r_aload_n g dX4_left_7 rfl ?_
  refine r_alen g hB.2.2.1 (by decide) dX4_left_8 ?_
  refine r_istore_n g dX4_left_9 rfl rfl rfl ?_
  refine r_iconst (v := 0) g dX4_left_10 (by decide) ?_
  refine r_istore g dX4_left_11 rfl rfl rfl ?_
  have e0 : lftC s 0 = 0 := by
    unfold lftC
    split
    · rfl
    · next h0 => rw [show nOp s = 0 by omega]; rfl
  refine r_le (ls2 := [some (.ref x), some (.int (nI 0)), some (.ref (x + 2)), some (.int (nI 6)), some (.int (nI 0)), none]) ⟨rfl, rfl, rfl, rfl, rfl, trivial⟩ ?_
  have h9 := loop 6 0 rfl
  rw [e0] at h9
  exact h9
