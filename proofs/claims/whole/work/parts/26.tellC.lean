/-! 26: tell -/
def gEr (s : AS) (c pl t : Nat) (p : List Nat) (x : Nat) : Nat × Nat := rowE (s.2.1 c 0) (gfr s) (gto s) pl t p x
/-- while a car's row is told: pre of it is told, the set R is left, from place P, at second t -/
def TI (s : AS) (c : Nat) (GA0 GA : Nat → Nat → Int32) (pre : List Nat) (R Pl t : Nat) : Prop :=
  (gRow s c = pre ++ bpr s c R Pl ∧ R < 2 ^ gn s ∧ R &&& abl s c = R ∧ plO s c R Pl) ∧ (∀ kf, kf ≠ 4 → kf ≠ 5 → kf ≠ 11 → GA kf = GA0 kf) ∧
  (∀ x, x ∉ pre → GA 4 x = GA0 4 x ∧ GA 5 x = GA0 5 x ∧ gE s c x = gEr s c (plc s c Pl) (tpl s c Pl + t) (bpr s c R Pl) x) ∧
  (∀ x, x ∈ pre → GA 4 x = nI (gE s c x).1 ∧ GA 5 x = nI (gE s c x).2) ∧
  (∀ j, (j < c * 6 ∨ c * 6 + 6 ≤ j) → GA 11 j = GA0 11 j) ∧ ∀ j, j < 6 → GA 11 (c * 6 + j) = if j < pre.length then nI (gk s (pre.getD j 0)) else GA0 11 (c * 6 + j)
theorem gEr_hd (s : AS) (c pl t i : Nat) (r : List Nat) : gEr s c pl t (i :: r) i = (t + dist pl (gfr s i) * s.2.1 c 0, t + dist pl (gfr s i) * s.2.1 c 0 + (3 + dist (gfr s i) (gto s i) * s.2.1 c 0)) := by
  unfold gEr rowE
  rw [if_pos rfl]
theorem gEr_tl {s : AS} {c pl t i x : Nat} {r : List Nat} (h : x ≠ i) : gEr s c pl t (i :: r) x = gEr s c (gto s i) (t + dist pl (gfr s i) * s.2.1 c 0 + (3 + dist (gfr s i) (gto s i) * s.2.1 c 0) + 3) r x := by
  unfold gEr
  rw [rowE, if_neg h]
theorem TI.step {s : AS} (hA : AI s) {c : Nat} (hc : c < s.1 2) {GA0 GA : Nat → Nat → Int32} {pre : List Nat} {R Pl t i : Nat} (h : TI s c GA0 GA pre R Pl t) (h0 : R ≠ 0) (hi : i = bpi s c R Pl) (hk : pre.length < 6) {v1 v2 v3 : Int32} (e1 : v1 = nI (t + pkT s c Pl i)) (e2 : v2 = nI (t + pkT s c Pl i + swT s c i)) (e3 : v3 = nI (gk s i)) {GA' : Nat → Nat → Int32} (h4 : GA' 4 = upd (GA 4) i v1) (h5 : GA' 5 = upd (GA 5) i v2) (h11 : GA' 11 = upd (GA 11) (c * 6 + pre.length) v3) (hf : ∀ kf, kf ≠ 4 → kf ≠ 5 → kf ≠ 11 → GA' kf = GA kf) :
    TI s c GA0 GA' (pre ++ [i]) (R - 2 ^ i) i (t + pkT s c Pl i + swT s c i + 3) := by
  have hg := gn_le hA
  have h64 := g6_64 hg
  obtain ⟨⟨hr, hR, hsb, hpl⟩, hfr, hno, hin, hr1, hr2⟩ := h
  have hcs := chs_at (s := s) hg (c := c) (S := R) (P := Pl) (by omega) h0
  rw [← hi] at hcs
  obtain ⟨-, hi6, -, hib, hbp, -⟩ := hcs
  have hig : i < gn s := bit_lt hR hib
  have hr' : gRow s c = pre ++ [i] ++ bpr s c (R - 2 ^ i) i := by rw [hr, hbp, List.append_assoc]; rfl
  have hnd := gRow_nd hA hc
  have hip : i ∉ pre := by
    rw [hr, hbp] at hnd
    intro z
    exact (List.nodup_append.mp hnd).2.2 i z i List.mem_cons_self rfl
  have e6 : plc s c i = gto s i := if_pos (by omega)
  have e7 : tpl s c i = 0 := if_pos (by omega)
  have hE : gE s c i = (t + pkT s c Pl i, t + pkT s c Pl i + swT s c i) := by
    rw [(hno i hip).2.2, hbp, gEr_hd]
    unfold pkT swT
    rw [show tpl s c Pl + t + dist (plc s c Pl) (gfr s i) * s.2.1 c 0 = t + (tpl s c Pl + dist (plc s c Pl) (gfr s i) * s.2.1 c 0) by omega]
  refine ⟨⟨hr', Nat.lt_of_le_of_lt (Nat.sub_le _ _) hR, sub_and R (by omega) _ (Nat.lt_of_lt_of_le (abl_lt s c) h64) hsb i hi6 hib, Or.inr ⟨hi6, and_sub hsb hib, by rw [sub_bit R (by omega) i hi6 hib i hi6]; simp⟩⟩, fun kf k1 k2 k3 => (hf kf k1 k2 k3).trans (hfr kf k1 k2 k3), fun x hx => ?_, fun x hx => ?_, fun j hj => ?_, fun j hj => ?_⟩
  · rw [List.mem_append, List.mem_singleton, not_or] at hx
    have h9 := hno x hx.1
    rw [h4, h5]
    refine ⟨(pk_un hx.2).trans h9.1, (pk_un hx.2).trans h9.2.1, ?_⟩
    rw [h9.2.2, hbp, gEr_tl hx.2, e6, e7]
    unfold pkT swT
    rw [show tpl s c Pl + t + dist (plc s c Pl) (gfr s i) * s.2.1 c 0 + (3 + dist (gfr s i) (gto s i) * s.2.1 c 0) + 3 = 0 + (t + (tpl s c Pl + dist (plc s c Pl) (gfr s i) * s.2.1 c 0) + (3 + dist (gfr s i) (gto s i) * s.2.1 c 0) + 3) by omega]
  · rw [h4, h5]
    by_cases e : x = i
    · subst e
      rw [hE]
      exact ⟨pk_us.trans e1, pk_us.trans e2⟩
    · rw [List.mem_append, List.mem_singleton] at hx
      have h9 := hin x (hx.resolve_right e)
      exact ⟨(pk_un e).trans h9.1, (pk_un e).trans h9.2⟩
  · rw [h11]
    exact (pk_un (by omega)).trans (hr1 j hj)
  · rw [h11, List.length_append, show [i].length = 1 from rfl]
    by_cases e : j = pre.length
    · subst e
      rw [if_pos (by omega), pk_us, e3, List.getD_eq_getElem?_getD, List.getElem?_append_right (Nat.le_refl _), Nat.sub_self]
      rfl
    · rw [pk_un (by omega), hr2 j hj]
      by_cases e2 : j < pre.length
      · rw [if_pos e2, if_pos (by omega), List.getD_eq_getElem?_getD, List.getD_eq_getElem?_getD, List.getElem?_append_left e2]
      · rw [if_neg e2, if_neg (by omega)]
/-- what tell sets -/
def QTe (s : AS) (c : Nat) (C : Int32) (Lz : Int64) (GA : Nat → Nat → Int32) : Int32 → Int64 → (Nat → Nat → Int32) → Prop := fun C' Lz' GA' => C' = C ∧ Lz' = Lz ∧ (∀ kf, kf ≠ 4 → kf ≠ 5 → kf ≠ 11 → GA' kf = GA kf) ∧
  (∀ x, x < gn s → (if (gd s).getD x 0 = c then GA' 4 x = nI (gE s c x).1 ∧ GA' 5 x = nI (gE s c x).2 else GA' 4 x = GA 4 x ∧ GA' 5 x = GA 5 x)) ∧
  (∀ j, (j < c * 6 ∨ c * 6 + 6 ≤ j) → GA' 11 j = GA 11 j) ∧ ∀ j, j < 6 → GA' 11 (c * 6 + j) = if j < (gRow s c).length then nI (gk s ((gRow s c).getD j 0)) else GA 11 (c * 6 + j)
theorem TI.fin {s : AS} (hA : AI s) {c : Nat} (hc : c < s.1 2) {GA0 GA : Nat → Nat → Int32} {pre : List Nat} {R Pl t : Nat} (h : TI s c GA0 GA pre R Pl t) (he : R = 0 ∨ 6 ≤ pre.length) (C : Int32) (Lz : Int64) : QTe s c C Lz GA0 C Lz GA := by
  obtain ⟨⟨hr, hR, hsb, hpl⟩, hfr, hno, hin, hr1, hr2⟩ := h
  have hn : bpr s c R Pl = [] := by
    rcases he with e | e
    · subst e; exact (bp_0 s c Pl).2
    · have h6 := gRow_len6 hA c
      rw [hr, List.length_append] at h6
      exact List.eq_nil_of_length_eq_zero (by omega)
  rw [hn, List.append_nil] at hr
  refine ⟨rfl, rfl, hfr, fun x hx => ?_, hr1, by rw [hr]; exact hr2⟩
  have hm := gRow_mem hA (x := x) hc
  rw [hr] at hm
  by_cases e : (gd s).getD x 0 = c
  · rw [if_pos e]; exact hin x (hm.mpr ⟨hx, e⟩)
  · rw [if_neg e]
    have := hno x (fun z => e (hm.mp z).2)
    exact ⟨this.1, this.2.1⟩
theorem TI.ini {s : AS} (hA : AI s) {c : Nat} (hc : c < s.1 2) (GA : Nat → Nat → Int32) : TI s c GA GA [] (setO (gd s) c (gn s)) 6 0 := by
  have hg := gn_le hA
  refine ⟨⟨?_, setO_gn s _ c, ?_, Or.inl rfl⟩, fun _ _ _ _ => rfl, fun x _ => ⟨rfl, rfl, ?_⟩, fun x hx => (by cases hx), fun _ _ => rfl, fun j _ => (if_neg (Nat.not_lt_zero _)).symm⟩
  · unfold gRow
    rw [if_pos hc]
    rfl
  · refine sub_abl (fun i hi => ?_)
    rw [setO_bit, Bool.and_eq_true] at hi
    have h1 := of_decide_eq_true hi.1
    have h2 := of_decide_eq_true hi.2
    exact ⟨h1, by rw [← h2]; exact (gd_at hA h1).2⟩
  · unfold gE gEr gRow
    rw [if_pos hc]
    rfl

set_option maxHeartbeats 4000000 in
set_option maxRecDepth 100000 in
theorem ok_g_tell (l : Launch) (G : Nat → ClassId) (D : va_G) (base : Nat) {h0 : Hp} {nx : Nat} {gv : Nat} {C : Int32} {Lz : Int64} {GA : Nat → Nat → Int32} (s : AS) (hA : AI s) {c : Nat} (hc : c < s.1 2) {r : Nat} {W : Nat → Int32} {CO : Nat → Int64} {FI : Nat → Int32} (hC : C = nI (gn s)) (hF : GF s GA) (h3 : ∀ i, i < gn s → GA 3 i = nI ((gd s).getD i 0)) (hWr : RO h0 r W CO FI) (hdr : gv + 14 ≤ r ∨ r + 3 ≤ gv) (hWF : WF s c W) (hRK : RK s c 64 CO FI) (hG : GO h0 gv C Lz GA) (hbg : base ≤ gv) : MetP l G D base miX0_tell 2 0 0 [.ref gv, .ref r, .int (nI c)] h0 nx (KGs h0 nx gv (QTe s c C Lz GA) none) := by
  refine MetP_of (by decide +kernel) rfl ?_
  intro k g hr hR hcl hcg hcd hcb hcn hnx
  subst hcl; subst hcg; subst hcd; subst hcb
  have hG := GS.rf hG
  show Sf k 0 0 h0 nx 0 [some (.ref gv), some (.ref r), some (.int (nI c)), none, none, none, none, none] []
  have hg6 := gn_le hA
  have h64 := g6_64 hg6
  have hc4 : c < 4 := by have := hA.2.2.1; omega
  have loop2 : ∀ e (pre : List Nat) (R Pl t : Nat) (GA1 : Nat → Nat → Int32) (h : Hp), GS h0 h gv C Lz GA1 → pre.length + e = 6 → TI s c GA GA1 pre R Pl t → Sf k 0 0 h nx 48 [some (.ref gv), some (.ref r), some (.int (nI c)), some (.int (nI R)), some (.int (nI Pl)), some (.int (nI t)), some (.int (nI pre.length)), none] [] := by
    intro e
    induction e with
    | zero =>
      intro pre R Pl t GA1 h hG he hT
      have hp6 : pre.length = 6 := by omega
      refine r_iload g dX0_tell_48 rfl ?_
      refine r_bipush (v := 6) g dX0_tell_50 (by decide) ?_
      refine r_icmp_ge 171 g dX0_tell_52 (by decide) (fun c52 => ?_) (fun c52 => absurd (nI_le (a := 6) (by omega) (by omega)) c52)
      exact r_vret g hr (Nat.le_refl _) (Nat.le_refl _) dX0_tell_171 ⟨rfl, rfl, C, Lz, GA1, hG, hT.fin hA hc (Or.inr (by omega)) C Lz⟩
    | succ e ih =>
      intro pre R Pl t GA1 h hG he hT
      refine r_iload g dX0_tell_48 rfl ?_
      refine r_bipush (v := 6) g dX0_tell_50 (by decide) ?_
      refine r_icmp_ge 171 g dX0_tell_52 (by decide) (fun c52 => absurd c52 (nI_ge (b := 6) (by omega) (by decide))) (fun c52 => ?_)
      refine r_iload_n g dX0_tell_55 rfl ?_
      refine r_if_eq 171 g dX0_tell_56 (by decide) (fun c56 => ?_) (fun c56 => ?_)
      · skip
        have hR0 : R = 0 := eq0 (by have := hT.1.2.1; omega) c56
        exact r_vret g hr (Nat.le_refl _) (Nat.le_refl _) dX0_tell_171 ⟨rfl, rfl, C, Lz, GA1, hG, hT.fin hA hc (Or.inl hR0) C Lz⟩
      · skip
        have hR0 : R ≠ 0 := fun z => c56 (by rw [z]; rfl)
        have hR6 := hT.1.2.1
        have hcs := chs_at (s := s) hg6 (c := c) (S := R) (P := Pl) (by omega) hR0
        have hig : bpi s c R Pl < gn s := bit_lt hR6 hcs.2.2.2.1
        have hpl := hT.1.2.2.2
        have hP7 : Pl < 7 := by rcases hpl with z | z <;> omega
        have hPg : Pl = 6 ∨ Pl < gn s := hpl.elim Or.inl (fun z => Or.inr (bit_lt (abl_lt s c) z.2.1))
        have hF1 : GF s GA1 := fun i hi => by
          rw [hT.2.1 0 (by decide) (by decide) (by decide), hT.2.1 1 (by decide) (by decide) (by decide), hT.2.1 2 (by decide) (by decide) (by decide), hT.2.1 8 (by decide) (by decide) (by decide), hT.2.1 9 (by decide) (by decide) (by decide), hT.2.1 10 (by decide) (by decide) (by decide)]; exact hF i hi
        refine r_aload_n g dX0_tell_59 rfl ?_
        refine r_iload_n g dX0_tell_60 rfl ?_
        refine r_iload g dX0_tell_61 rfl ?_
        refine r_pV g kX0_120 (ok_r_firstOf _ _ _ _ (hWr.fr hG.2 (by omega)) (S := R) (Pl := Pl) (by omega) hP7) (hWr.fr hG.2 (by omega)).1 rfl rfl rfl hnx hR (by decide) (Nat.zero_le _) (Nat.zero_le _) rfl rfl dX0_tell_63 ?_
        refine r_topi (y := (nI (bpi s c R Pl))) (hRK.2 R Pl (by omega) hR0 hT.1.2.2.1 hpl).2 ?_
        refine r_istore g dX0_tell_66 rfl rfl rfl ?_
        refine r_iload g dX0_tell_68 rfl ?_
        refine r_if_lt 80 g dX0_tell_70 (by decide) (fun c70 => absurd c70 (nI_pos (by omega))) (fun c70 => ?_)
        refine r_iload g dX0_tell_73 rfl ?_
        refine r_bipush (v := 6) g dX0_tell_75 (by decide) ?_
        refine r_icmp_lt 81 g dX0_tell_77 (by decide) (fun c77 => ?_) (fun c77 => absurd (nI_lt (b := 6) (by omega) (by decide)) c77)
        refine r_aload_n g dX0_tell_81 rfl ?_
        refine r_getf g fX0_24 hG.1.1 rfl dX0_tell_82 ?_
        refine r_iload g dX0_tell_85 rfl ?_
        refine r_iload g dX0_tell_87 rfl ?_
        refine r_aload_n g dX0_tell_89 rfl ?_
        refine r_aload_n g dX0_tell_90 rfl ?_
        refine r_iload g dX0_tell_91 rfl ?_
        refine r_iload g dX0_tell_93 rfl ?_
        refine r_pV g kX0_123 (ok_r_secondsTo _ _ _ _ s hA hc (hWr.fr hG.2 (by omega)) hG.1 hF1 hWF (Pl := Pl) (i := bpi s c R Pl) hPg hig) (hWr.fr hG.2 (by omega)).1 rfl rfl rfl hnx hR (by decide) (Nat.zero_le _) (Nat.zero_le _) rfl rfl dX0_tell_95 ?_
        refine r_iadd g dX0_tell_98 ?_
        refine r_topi (y := (nI (t + (pkT s c Pl (bpi s c R Pl))))) (nI_add t (pkT s c Pl (bpi s c R Pl))) ?_
        refine rg_iast 4 (j := bpi s c R Pl) g hG hbg rfl rfl (show bpi s c R Pl < 6 by omega) dX0_tell_99 ?_
        intro h_1 hG
        refine r_aload_n g dX0_tell_100 rfl ?_
        refine r_getf g fX0_27 hG.1.1 rfl dX0_tell_101 ?_
        refine r_iload g dX0_tell_104 rfl ?_
        refine r_aload_n g dX0_tell_106 rfl ?_
        refine r_getf g fX0_24 hG.1.1 rfl dX0_tell_107 ?_
        refine r_iload g dX0_tell_110 rfl ?_
        refine rg_iald 4 (j := bpi s c R Pl) g hG.1 rfl rfl (show bpi s c R Pl < 6 by omega) dX0_tell_112 ?_
        refine r_topi (y := (nI (t + pkT s c Pl (bpi s c R Pl)))) pk_us ?_
        refine r_aload_n g dX0_tell_113 rfl ?_
        refine r_aload_n g dX0_tell_114 rfl ?_
        refine r_iload g dX0_tell_115 rfl ?_
        have hF2 : GF s (upA GA1 4 (upd (GA1 4) (bpi s c R Pl) (nI (t + (pkT s c Pl (bpi s c R Pl)))))) := fun i hi => by
          rw [upA_ne (by decide), upA_ne (by decide), upA_ne (by decide), upA_ne (by decide), upA_ne (by decide), upA_ne (by decide)]; exact hF1 i hi
        refine r_pV g kX0_127 (ok_r_secondsWith _ _ _ _ s hA hc (hWr.fr hG.2 (by omega)) hG.1 hF2 hWF (i := bpi s c R Pl) hig) (hWr.fr hG.2 (by omega)).1 rfl rfl rfl hnx hR (by decide) (Nat.zero_le _) (Nat.zero_le _) rfl rfl dX0_tell_117 ?_
        refine r_iadd g dX0_tell_120 ?_
        refine r_topi (y := (nI ((t + pkT s c Pl (bpi s c R Pl)) + (swT s c (bpi s c R Pl))))) (nI_add (t + pkT s c Pl (bpi s c R Pl)) (swT s c (bpi s c R Pl))) ?_
        refine rg_iast 5 (j := bpi s c R Pl) g hG hbg rfl rfl (show bpi s c R Pl < 6 by omega) dX0_tell_121 ?_
        intro h_2 hG
        refine r_aload_n g dX0_tell_122 rfl ?_
        refine r_getf g fX0_44 hG.1.1 rfl dX0_tell_123 ?_
        refine r_iload_n g dX0_tell_126 rfl ?_
        refine r_bipush (v := 6) g dX0_tell_127 (by decide) ?_
        refine r_imul g dX0_tell_129 ?_
        refine r_topi (y := (nI (c * 6))) (pk_mul c 6) ?_
        refine r_iload g dX0_tell_130 rfl ?_
        refine r_iadd g dX0_tell_132 ?_
        refine r_topi (y := (nI ((c * 6) + pre.length))) (nI_add (c * 6) pre.length) ?_
        refine r_aload_n g dX0_tell_133 rfl ?_
        refine r_getf g fX0_35 hG.1.1 rfl dX0_tell_134 ?_
        refine r_iload g dX0_tell_137 rfl ?_
        refine rg_iald 8 (j := bpi s c R Pl) g hG.1 rfl rfl (show bpi s c R Pl < 6 by omega) dX0_tell_139 ?_
        refine r_topi (y := (nI (gk s (bpi s c R Pl)))) ((congrFun (hT.2.1 8 (by decide) (by decide) (by decide)) _).trans (hF (bpi s c R Pl) (by omega)).2.2.2.1) ?_
        refine rg_iast 11 (j := (c * 6) + pre.length) g hG hbg rfl rfl (show c * 6 + pre.length < 24 by omega) dX0_tell_140 ?_
        intro h_3 hG
        refine r_aload_n g dX0_tell_141 rfl ?_
        refine r_getf g fX0_27 hG.1.1 rfl dX0_tell_142 ?_
        refine r_iload g dX0_tell_145 rfl ?_
        refine rg_iald 5 (j := bpi s c R Pl) g hG.1 rfl rfl (show bpi s c R Pl < 6 by omega) dX0_tell_147 ?_
        refine r_topi (y := (nI (t + pkT s c Pl (bpi s c R Pl) + swT s c (bpi s c R Pl)))) pk_us ?_
        refine r_iconst (v := 3) g dX0_tell_148 (by decide) ?_
        refine r_iadd g dX0_tell_149 ?_
        refine r_topi (y := (nI ((t + pkT s c Pl (bpi s c R Pl) + swT s c (bpi s c R Pl)) + 3))) (nI_add (t + pkT s c Pl (bpi s c R Pl) + swT s c (bpi s c R Pl)) 3) ?_
        refine r_istore g dX0_tell_150 rfl rfl rfl ?_
        refine r_iload g dX0_tell_152 rfl ?_
        refine r_istore g dX0_tell_154 rfl rfl rfl ?_
        refine r_iload_n g dX0_tell_156 rfl ?_
        refine r_iconst (v := 1) g dX0_tell_157 (by decide) ?_
        refine r_iload g dX0_tell_158 rfl ?_
        refine r_ishl g dX0_tell_160 ?_
        refine r_topi (y := (nI (2 ^ (bpi s c R Pl)))) (shl1 (by omega)) ?_
        refine r_iconst (v := (-1)) g dX0_tell_161 (by decide) ?_
        refine r_ixor g dX0_tell_162 ?_
        refine r_iand g dX0_tell_163 ?_
        refine r_topi (y := (nI (R - 2 ^ (bpi s c R Pl)))) (and_n1 R (by omega) (bpi s c R Pl) (by omega) hcs.2.2.2.1) ?_
        refine r_istore_n g dX0_tell_164 rfl rfl rfl ?_
        refine r_iinc (v := (nI (pre.length + 1))) g dX0_tell_165 rfl (nI_add pre.length 1) rfl rfl ?_
        refine r_goto 48 g dX0_tell_168 (by decide) ?_
        refine r_le (ls2 := [some (.ref gv), some (.ref r), some (.int (nI c)), some (.int (nI (R - 2 ^ (bpi s c R Pl)))), some (.int (nI (bpi s c R Pl))), some (.int (nI (t + pkT s c Pl (bpi s c R Pl) + swT s c (bpi s c R Pl) + 3))), some (.int (nI ((pre ++ [(bpi s c R Pl)]).length))), none]) ⟨rfl, rfl, rfl, rfl, rfl, rfl, by rw [List.length_append]; rfl, trivial⟩ ?_
        exact ih (pre ++ [(bpi s c R Pl)]) _ _ _ _ _ hG (by rw [List.length_append]; show pre.length + 1 + e = 6; omega) (hT.step hA hc hR0 rfl (by omega) rfl rfl rfl rfl rfl rfl (fun kf k1 k2 k3 => by rw [upA_ne k3, upA_ne k2, upA_ne k1]))
  have loop1 : ∀ e i, i + e = gn s → Sf k 0 0 h0 nx 5 [some (.ref gv), some (.ref r), some (.int (nI c)), some (.int (nI (setO (gd s) c i))), some (.int (nI i)), none, none, none] [] := by
    intro e
    induction e with
    | zero =>
      intro i hi
      have hi2 : i = gn s := by omega
      subst hi2
      refine r_iload g dX0_tell_5 rfl ?_
      refine r_aload_n g dX0_tell_7 rfl ?_
      refine r_getf g fX0_56 hG.1.1 rfl dX0_tell_8 ?_
      refine r_topi (y := (nI (gn s))) hC ?_
      refine r_icmp_ge 38 g dX0_tell_11 (by decide) (fun c11 => ?_) (fun c11 => absurd (nI_le (Nat.le_refl _) (by omega)) c11)
      refine r_bipush (v := 6) g dX0_tell_38 (by decide) ?_
      refine r_istore g dX0_tell_40 rfl rfl rfl ?_
      refine r_iconst (v := 0) g dX0_tell_42 (by decide) ?_
      refine r_istore g dX0_tell_43 rfl rfl rfl ?_
      refine r_iconst (v := 0) g dX0_tell_45 (by decide) ?_
      refine r_istore g dX0_tell_46 rfl rfl rfl ?_
      refine r_le (ls2 := [some (.ref gv), some (.ref r), some (.int (nI c)), some (.int (nI (setO (gd s) c (gn s)))), some (.int (nI 6)), some (.int (nI 0)), some (.int (nI (([] : List Nat).length))), none]) ⟨rfl, rfl, rfl, rfl, rfl, rfl, rfl, trivial⟩ ?_
      exact loop2 6 [] _ _ _ GA _ hG rfl (TI.ini hA hc GA)
    | succ e ih =>
      intro i hi
      have hgd := (gd_at hA (i := i) (by omega)).1
      have hgd4 : (gd s).getD i 0 < 4 := Nat.lt_of_lt_of_le hgd hA.2.2.1
      refine r_iload g dX0_tell_5 rfl ?_
      refine r_aload_n g dX0_tell_7 rfl ?_
      refine r_getf g fX0_56 hG.1.1 rfl dX0_tell_8 ?_
      refine r_topi (y := (nI (gn s))) hC ?_
      refine r_icmp_ge 38 g dX0_tell_11 (by decide) (fun c11 => absurd c11 (nI_ge (by omega) (by omega))) (fun c11 => ?_)
      refine r_aload_n g dX0_tell_14 rfl ?_
      refine r_getf g fX0_21 hG.1.1 rfl dX0_tell_15 ?_
      refine r_iload g dX0_tell_18 rfl ?_
      refine rg_iald 3 (j := i) g hG.1 rfl rfl (show i < 6 by omega) dX0_tell_20 ?_
      refine r_topi (y := (nI ((gd s).getD i 0))) (h3 i (by omega)) ?_
      refine r_iload_n g dX0_tell_21 rfl ?_
      refine r_icmp_ne 32 g dX0_tell_22 (by decide) (fun c22 => ?_) (fun c22 => ?_)
      · skip
        have q : ¬ (gd s).getD i 0 = c := fun z => c22 (congrArg nI z)
        refine r_iinc (v := (nI (i + 1))) g dX0_tell_32 rfl (nI_add i 1) rfl rfl ?_
        refine r_goto 5 g dX0_tell_35 (by decide) ?_
        have e9 : setO (gd s) c (i + 1) = setO (gd s) c i := by show setO (gd s) c i + (if (gd s).getD i 0 = c then 2 ^ i else 0) = _; rw [if_neg q]; rfl
        rw [← e9]
        exact ih (i + 1) (by omega)
      · skip
        have q : (gd s).getD i 0 = c := (nI_c (by omega) (by omega)).mp c22
        refine r_iload_n g dX0_tell_25 rfl ?_
        refine r_iconst (v := 1) g dX0_tell_26 (by decide) ?_
        refine r_iload g dX0_tell_27 rfl ?_
        refine r_ishl g dX0_tell_29 ?_
        refine r_topi (y := (nI (2 ^ i))) (shl1 (by omega)) ?_
        refine r_ior g dX0_tell_30 ?_
        refine r_topi (y := (nI (setO (gd s) c i + 2 ^ i))) (by rw [nI_or, or_pow (setO_lt _ _ i)]) ?_
        refine r_istore_n g dX0_tell_31 rfl rfl rfl ?_
        refine r_iinc (v := (nI (i + 1))) g dX0_tell_32 rfl (nI_add i 1) rfl rfl ?_
        refine r_goto 5 g dX0_tell_35 (by decide) ?_
        have e9 : setO (gd s) c (i + 1) = setO (gd s) c i + 2 ^ i := by show setO (gd s) c i + (if (gd s).getD i 0 = c then 2 ^ i else 0) = _; rw [if_pos q]
        rw [← e9]
        exact ih (i + 1) (by omega)
  refine r_iconst (v := 0) g dX0_tell_0 (by decide) ?_
  refine r_istore_n g dX0_tell_1 rfl rfl rfl ?_
  refine r_iconst (v := 0) g dX0_tell_2 (by decide) ?_
  refine r_istore g dX0_tell_3 rfl rfl rfl ?_
  exact loop1 (gn s) 0 (Nat.zero_add _)
