/-- the reference has listed the calls to be given -/
def P1 (F : Nat → Int32) (A : Nat → Nat → Int32) (s : AS) : Prop := MI F A s ∧ F 24 = nI (gn s) ∧ ∀ i, i < gn s → A 25 i = nI (gk s i) ∧ A 26 i = nI (carsN s (gk s i))
theorem MI.congr {F : Nat → Int32} {A A' : Nat → Nat → Int32} {s : AS} (h : MI F A s) (hA : ∀ kf, kf < 17 → A' kf = A kf) : MI F A' s := by
  unfold MI at h ⊢
  rw [hA 4 (by decide), hA 5 (by decide), hA 6 (by decide), hA 7 (by decide), hA 8 (by decide), hA 9 (by decide), hA 11 (by decide), hA 12 (by decide), hA 13 (by decide), hA 14 (by decide), hA 15 (by decide), hA 16 (by decide)]
  exact h
theorem P1.congr {F : Nat → Int32} {A A' : Nat → Nat → Int32} {s : AS} (h : P1 F A s) (hA : ∀ kf, kf < 17 ∨ kf = 25 ∨ kf = 26 → A' kf = A kf) : P1 F A' s := by
  refine ⟨h.1.congr (fun kf hk => hA kf (Or.inl hk)), h.2.1, ?_⟩
  rw [hA 25 (Or.inr (Or.inl rfl)), hA 26 (Or.inr (Or.inr rfl))]
  exact h.2.2
theorem filt_len (p : Nat → Bool) : ∀ n, ((List.range n).filter p).length = cnt p n
  | 0 => rfl
  | n + 1 => by
    rw [List.range_succ, List.filter_append, List.length_append, filt_len p n]
    show _ = cnt p n + _
    by_cases h : p n = true
    · simp [h]
    · simp [h]
theorem cnt_mono {p q : Nat → Bool} (h : ∀ k, p k = true → q k = true) : ∀ n, cnt p n ≤ cnt q n
  | 0 => Nat.le_refl _
  | n + 1 => by
    have := cnt_mono h n
    unfold cnt
    by_cases hp : p n = true
    · rw [if_pos hp, if_pos (h n hp)]; omega
    · rw [if_neg hp]; omega
theorem gn_le {s : AS} (hA : AI s) : gn s ≤ 6 := by
  refine Nat.le_trans ?_ hA.2.2.2.2.2.2.1
  unfold gn gL nOp
  rw [filt_len]
  exact cnt_mono (fun k hk => by unfold gB at hk; rw [Bool.and_eq_true] at hk; exact hk.1) _
theorem nd_inj {l : List Nat} (h : l.Nodup) {i j : Nat} (hi : i < l.length) (hj : j < l.length) (e : l[i] = l[j]) : i = j := by
  have h1 := List.pairwise_iff_getElem.mp h
  rcases Nat.lt_trichotomy i j with q | q | q
  · exact absurd e (h1 i j hi hj q)
  · exact q
  · exact absurd e.symm (h1 j i hj hi q)
theorem gk_mem {s : AS} {i : Nat} (h : i < gn s) : gk s i ∈ gL s := by
  unfold gk
  rw [List.getD_eq_getElem?_getD, List.getElem?_eq_getElem h]
  exact List.getElem_mem h
theorem gk_at {s : AS} {i : Nat} (h : i < gn s) : gk s i < s.1 3 ∧ isOp s (gk s i) = true ∧ carsN s (gk s i) ≠ 0 := by
  have h1 := gk_mem h
  unfold gL at h1
  rw [List.mem_filter, List.mem_range] at h1
  have h2 := h1.2
  unfold gB at h2
  rw [Bool.and_eq_true] at h2
  exact ⟨h1.1, h2.1, by simpa using h2.2⟩
theorem gL_nodup (s : AS) : (gL s).Nodup := List.Pairwise.filter _ List.nodup_range
theorem gk_inj {s : AS} {i j : Nat} (hi : i < gn s) (hj : j < gn s) (e : gk s i = gk s j) : i = j := by
  unfold gk at e
  rw [List.getD_eq_getElem?_getD, List.getD_eq_getElem?_getD, List.getElem?_eq_getElem hi, List.getElem?_eq_getElem hj] at e
  exact nd_inj (gL_nodup s) hi hj e
theorem dist_le {a b n : Nat} (ha : a < n) (hb : b < n) : dist a b ≤ n - 1 := by
  unfold dist
  split <;> omega
theorem dsp {a b n sp : Nat} (hn : n ≤ 60) (ha : a < n) (hb : b < n) (hs : sp ≤ 5) : dist a b * sp ≤ 295 := by
  have h1 := dist_le ha hb
  have h2 : dist a b * sp ≤ 59 * 5 := Nat.mul_le_mul (by omega) hs
  omega
theorem nI_sb {a b c : Nat} (h : a = b + c) : nI a - nI b = nI c := by
  rw [pk_sub (by omega)]
  congr 1
  omega
theorem drop_cons {p : List Nat} {i : Nat} (h : i < p.length) : p.drop i = p.getD i 0 :: p.drop (i + 1) := by
  rw [List.drop_eq_getElem_cons h, List.getD_eq_getElem?_getD, List.getElem?_eq_getElem h]
  rfl
theorem gmax {a b : Nat} (h : ¬ a ≤ b) : a = b + (a - b) := by omega
/-- the second of a row's slots: what it says -/
theorem rowE_step {sp : Nat} {fr to : Nat → Nat} {pl0 t0 pl tt x : Nat} {p q r : List Nat} (hq : q = x :: r) (hE : ∀ y, y ∈ q → rowE sp fr to pl0 t0 p y = rowE sp fr to pl tt q y) (hnd : q.Nodup) :
    rowE sp fr to pl0 t0 p x = (tt + dist pl (fr x) * sp, tt + dist pl (fr x) * sp + (3 + dist (fr x) (to x) * sp)) ∧ ∀ y, y ∈ r → rowE sp fr to pl0 t0 p y = rowE sp fr to (to x) (tt + dist pl (fr x) * sp + (3 + dist (fr x) (to x) * sp) + 3) r y := by
  subst hq
  refine ⟨(hE x List.mem_cons_self).trans (if_pos rfl), fun y hy => (hE y (List.mem_cons_of_mem _ hy)).trans (if_neg (fun e => ?_))⟩
  subst e
  exact (List.nodup_cons.mp hnd).1 hy
def gE0 (s : AS) (c : Nat) (p : List Nat) (j : Nat) : Nat × Nat := rowE (s.2.1 c 0) (gfr s) (gto s) (s.2.1 c 1) (gdl s c) p j
/-- i of the row's calls are noted -/
def Wr (A A1 : Nat → Nat → Int32) (s : AS) (c : Nat) (p : List Nat) (i : Nat) : Prop := (∀ kf, kf < 18 ∨ 22 < kf → A1 kf = A kf) ∧
  (∀ q, q < i → A1 18 (gk s (p.getD q 0)) = nI c ∧ A1 19 (gk s (p.getD q 0)) = nI (gE0 s c p (p.getD q 0)).1 ∧ A1 20 (gk s (p.getD q 0)) = nI (gE0 s c p (p.getD q 0)).2 ∧ A1 21 (gk s (p.getD q 0)) = nI (gw s (p.getD q 0)) ∧ A1 22 (6 * c + q) = nI (gk s (p.getD q 0))) ∧
  (∀ j, (∀ q, q < i → j ≠ gk s (p.getD q 0)) → A1 18 j = A 18 j ∧ A1 19 j = A 19 j ∧ A1 20 j = A 20 j ∧ A1 21 j = A 21 j) ∧ ∀ j, (j < 6 * c ∨ 6 * c + i ≤ j) → A1 22 j = A 22 j
theorem Wr.step {A A1 : Nat → Nat → Int32} {s : AS} {c : Nat} {p : List Nat} {i x pk st : Nat} (h : Wr A A1 s c p i) (hx : x = p.getD i 0) (hne : ∀ q, q < i → gk s (p.getD q 0) ≠ gk s x) (hE : gE0 s c p x = (pk, st)) :
    Wr A (upA (upA (upA (upA (upA A1 18 (upd (A1 18) (gk s x) (nI c))) 19 (upd (A1 19) (gk s x) (nI pk))) 20 (upd (A1 20) (gk s x) (nI st))) 21 (upd (A1 21) (gk s x) (nI (gw s x)))) 22 (upd (A1 22) (6 * c + i) (nI (gk s x)))) s c p (i + 1) := by
  obtain ⟨h1, h2, h3, h4⟩ := h
  refine ⟨fun kf hk => ?_, fun q hq => ?_, fun j hj => ?_, fun j hj => ?_⟩
  · rw [upA_ne (by omega), upA_ne (by omega), upA_ne (by omega), upA_ne (by omega), upA_ne (by omega)]
    exact h1 kf hk
  · by_cases e : q = i
    · subst e
      rw [← hx]
      refine ⟨pk_us, ?_, ?_, pk_us, pk_us⟩
      · rw [hE]; exact pk_us
      · rw [hE]; exact pk_us
    · have h9 := h2 q (by omega)
      have h8 := hne q (by omega)
      exact ⟨(pk_un h8).trans h9.1, (pk_un h8).trans h9.2.1, (pk_un h8).trans h9.2.2.1, (pk_un h8).trans h9.2.2.2.1, (pk_un (by omega)).trans h9.2.2.2.2⟩
  · have h9 := h3 j (fun q hq => hj q (by omega))
    have h8 : j ≠ gk s x := by have := hj i (Nat.lt_succ_self i); rw [← hx] at this; exact this
    exact ⟨(pk_un h8).trans h9.1, (pk_un h8).trans h9.2.1, (pk_un h8).trans h9.2.2.1, (pk_un h8).trans h9.2.2.2⟩
  · exact (pk_un (by omega)).trans (h4 j (by omega))
theorem nd_getD {p : List Nat} (h : p.Nodup) {i j : Nat} (hi : i < p.length) (hj : j < p.length) (e : p.getD i 0 = p.getD j 0) : i = j := by
  rw [List.getD_eq_getElem?_getD, List.getD_eq_getElem?_getD, List.getElem?_eq_getElem hi, List.getElem?_eq_getElem hj] at e
  exact nd_inj h hi hj e
set_option maxHeartbeats 4000000 in
set_option maxRecDepth 100000 in
theorem ok_m_sumOf0 (l : Launch) (G : Nat → ClassId) (D : va_G) (base : Nat) {h : Hp} {nx m : Nat} {F : Nat → Int32} {A : Nat → Nat → Int32} {B : Nat → Int64} (s : AS) (hA : AI s) (hP : P1 F A s) {c : Nat} {p : List Nat} (hc : c < s.1 2) (hp6 : p.length ≤ 6) (hord : ∀ q, q < p.length → A 29 q = nI (p.getD q 0) ∧ p.getD q 0 < gn s) (hM : MO h m F A B) : MetP l G D base miX5_sumOf 1 0 0 [.ref m, .int (nI c), .int (nI p.length), .int 0] h nx (Kv (.long (lN (gcost s c p))) h nx) := by
  refine MetP_of (by decide +kernel) rfl ?_
  intro k g hr hR hcl hcg hcd hcb hcn hnx
  subst hcl; subst hcg; subst hcd; subst hcb
  have hM := MS.rf hM
  have hI := hP.1
  obtain ⟨⟨hn1, hn2⟩, ht, hnc, hN, -⟩ := id hA
  have hcc := hA.2.2.2.2.1 c hc
  have hg6 := gn_le hA
  show Sf k 0 0 h nx 0 [some (.ref m), some (.int (nI c)), some (.int (nI p.length)), some (.int 0), none, none, none, none, none, none, none, none] []
  have loop : ∀ e i pl tt S, i + e = p.length → pl < s.1 0 → tt ≤ 100000 + 600 * i → S + rowC (s.2.1 c 0) (gfr s) (gto s) (gw s) pl tt (p.drop i) = gcost s c p → Sf k 0 0 h nx 42 [some (.ref m), some (.int (nI c)), some (.int (nI p.length)), some (.int 0), some (.int (nI (s.1 1 + tt))), some (.int (nI pl)), some (.long (lN S)), none, some (.int (nI i)), none, none, none] [] := by
    intro e
    induction e with
    | zero =>
      intro i pl tt S hi hpl htt hS
      have hi2 : i = p.length := by omega
      have hS2 : S = gcost s c p := by rw [hi2, List.drop_length] at hS; exact hS
      refine r_iload g dX5_sumOf_42 rfl ?_
      refine r_iload_n g dX5_sumOf_44 rfl ?_
      refine r_icmp_ge 230 g dX5_sumOf_45 (by decide) (fun c45 => ?_) (fun c45 => absurd (nI_le (by omega) (by omega)) c45)
      refine r_lload g dX5_sumOf_230 rfl ?_
      exact r_lret g hr (Nat.le_refl _) (Nat.le_refl _) dX5_sumOf_232 ⟨by rw [hS2], rfl, rfl⟩
    | succ e ih =>
      intro i pl tt S hi hpl htt hS
      obtain ⟨x, hx⟩ : ∃ x, x = p.getD i 0 := ⟨_, rfl⟩
      have hxg : x < gn s := by rw [hx]; exact (hord i (by omega)).2
      have hgk := gk_at hxg
      have hkk := hA.2.2.2.2.2.1 _ hgk.1
      have hf : gfr s x < s.1 0 := hkk.1
      have hto : gto s x < s.1 0 := hkk.2.1
      have hd1 := dsp (sp := s.2.1 c 0) hn2 hpl hf hcc.1.2
      have hd2 := dsp (sp := s.2.1 c 0) hn2 hf hto hcc.1.2
      have hwg : gw s x ≤ 13336 := wgt_le hA _
      have hdr := drop_cons (p := p) (i := i) (by omega)
      rw [← hx] at hdr
      refine r_iload g dX5_sumOf_42 rfl ?_
      refine r_iload_n g dX5_sumOf_44 rfl ?_
      refine r_icmp_ge 230 g dX5_sumOf_45 (by decide) (fun c45 => absurd c45 (nI_ge (by omega) (by omega))) (fun c45 => ?_)
      refine r_aload_n g dX5_sumOf_48 rfl ?_
      refine rm_get g hM fX5_65 rfl dX5_sumOf_49 ?_
      refine r_aload_n g dX5_sumOf_52 rfl ?_
      refine rm_get g hM fX5_78 rfl dX5_sumOf_53 ?_
      refine r_iload g dX5_sumOf_56 rfl ?_
      refine rm_iald 29 (j := i) g hM rfl (by decide) rfl rfl (show i < 6 by omega) dX5_sumOf_58 ?_
      refine r_topi (y := (nI x)) ((hord i (by omega)).1.trans (by rw [hx])) ?_
      refine rm_iald 25 (j := x) g hM rfl (by decide) rfl rfl (show x < 6 by omega) dX5_sumOf_59 ?_
      refine r_topi (y := (nI (gk s x))) (hP.2.2 x hxg).1 ?_
      refine r_istore g dX5_sumOf_60 rfl rfl rfl ?_
      refine r_iload g dX5_sumOf_62 rfl ?_
      refine r_iload g dX5_sumOf_64 rfl ?_
      refine r_aload_n g dX5_sumOf_66 rfl ?_
      refine rm_get g hM fX5_29 rfl dX5_sumOf_67 ?_
      refine r_iload g dX5_sumOf_70 rfl ?_
      refine rm_iald 11 (j := gk s x) g hM rfl (by decide) rfl rfl (show gk s x < 400 by omega) dX5_sumOf_72 ?_
      refine r_topi (y := (nI (gfr s x))) (hI.2.2.2.2.2.2.1 _ hgk.1).1 ?_
      refine r_pS g kX5_122 (ok_m_way _ _ _ _ (a := pl) (b := gfr s x) (by omega) (by omega)) rfl rfl hnx hR (by decide) (Nat.zero_le _) (Nat.zero_le _) rfl rfl dX5_sumOf_73 ?_
      refine r_aload_n g dX5_sumOf_76 rfl ?_
      refine rm_get g hM fX5_7 rfl dX5_sumOf_77 ?_
      refine r_iload_n g dX5_sumOf_80 rfl ?_
      refine rm_iald 4 (j := c) g hM rfl (by decide) rfl rfl (show c < 4 by omega) dX5_sumOf_81 ?_
      refine r_topi (y := (nI (s.2.1 c 0))) (hI.2.2.2.2.2.1 c hc).1 ?_
      refine r_imul g dX5_sumOf_82 ?_
      refine r_topi (y := (nI ((dist pl (gfr s x)) * (s.2.1 c 0)))) (pk_mul (dist pl (gfr s x)) (s.2.1 c 0)) ?_
      refine r_iadd g dX5_sumOf_83 ?_
      refine r_topi (y := (nI ((s.1 1 + tt) + ((dist pl (gfr s x)) * (s.2.1 c 0))))) (nI_add (s.1 1 + tt) ((dist pl (gfr s x)) * (s.2.1 c 0))) ?_
      refine r_istore g dX5_sumOf_84 rfl rfl rfl ?_
      refine r_iload g dX5_sumOf_86 rfl ?_
      refine r_aload_n g dX5_sumOf_88 rfl ?_
      refine rm_get g hM fX5_105 rfl dX5_sumOf_89 ?_
      refine r_topi (y := (nI (s.1 1))) hI.2.1 ?_
      refine r_isub g dX5_sumOf_92 ?_
      refine r_topi (y := (nI (tt + dist pl (gfr s x) * s.2.1 c 0))) (nI_sb (by omega)) ?_
      refine r_istore g dX5_sumOf_93 rfl rfl rfl ?_
      refine r_iload g dX5_sumOf_95 rfl ?_
      refine r_iconst (v := 3) g dX5_sumOf_97 (by decide) ?_
      refine r_aload_n g dX5_sumOf_98 rfl ?_
      refine rm_get g hM fX5_29 rfl dX5_sumOf_99 ?_
      refine r_iload g dX5_sumOf_102 rfl ?_
      refine rm_iald 11 (j := gk s x) g hM rfl (by decide) rfl rfl (show gk s x < 400 by omega) dX5_sumOf_104 ?_
      refine r_topi (y := (nI (gfr s x))) (hI.2.2.2.2.2.2.1 _ hgk.1).1 ?_
      refine r_aload_n g dX5_sumOf_105 rfl ?_
      refine rm_get g hM fX5_32 rfl dX5_sumOf_106 ?_
      refine r_iload g dX5_sumOf_109 rfl ?_
      refine rm_iald 12 (j := gk s x) g hM rfl (by decide) rfl rfl (show gk s x < 400 by omega) dX5_sumOf_111 ?_
      refine r_topi (y := (nI (gto s x))) (hI.2.2.2.2.2.2.1 _ hgk.1).2.1 ?_
      refine r_pS g kX5_122 (ok_m_way _ _ _ _ (a := gfr s x) (b := gto s x) (by omega) (by omega)) rfl rfl hnx hR (by decide) (Nat.zero_le _) (Nat.zero_le _) rfl rfl dX5_sumOf_112 ?_
      refine r_aload_n g dX5_sumOf_115 rfl ?_
      refine rm_get g hM fX5_7 rfl dX5_sumOf_116 ?_
      refine r_iload_n g dX5_sumOf_119 rfl ?_
      refine rm_iald 4 (j := c) g hM rfl (by decide) rfl rfl (show c < 4 by omega) dX5_sumOf_120 ?_
      refine r_topi (y := (nI (s.2.1 c 0))) (hI.2.2.2.2.2.1 c hc).1 ?_
      refine r_imul g dX5_sumOf_121 ?_
      refine r_topi (y := (nI ((dist (gfr s x) (gto s x)) * (s.2.1 c 0)))) (pk_mul (dist (gfr s x) (gto s x)) (s.2.1 c 0)) ?_
      refine r_iadd g dX5_sumOf_122 ?_
      refine r_topi (y := (nI (3 + ((dist (gfr s x) (gto s x)) * (s.2.1 c 0))))) (nI_add 3 ((dist (gfr s x) (gto s x)) * (s.2.1 c 0))) ?_
      refine r_iadd g dX5_sumOf_123 ?_
      refine r_topi (y := (nI (((s.1 1 + tt) + ((dist pl (gfr s x)) * (s.2.1 c 0))) + (3 + ((dist (gfr s x) (gto s x)) * (s.2.1 c 0)))))) (nI_add ((s.1 1 + tt) + ((dist pl (gfr s x)) * (s.2.1 c 0))) (3 + ((dist (gfr s x) (gto s x)) * (s.2.1 c 0)))) ?_
      refine r_istore g dX5_sumOf_124 rfl rfl rfl ?_
      refine r_iload g dX5_sumOf_126 rfl ?_
      refine r_aload_n g dX5_sumOf_128 rfl ?_
      refine rm_get g hM fX5_105 rfl dX5_sumOf_129 ?_
      refine r_topi (y := (nI (s.1 1))) hI.2.1 ?_
      refine r_isub g dX5_sumOf_132 ?_
      refine r_topi (y := (nI (tt + dist pl (gfr s x) * s.2.1 c 0 + (3 + dist (gfr s x) (gto s x) * s.2.1 c 0)))) (nI_sb (by omega)) ?_
      refine r_istore g dX5_sumOf_133 rfl rfl rfl ?_
      refine r_iinc (v := (nI (((s.1 1 + tt) + ((dist pl (gfr s x)) * (s.2.1 c 0))) + (3 + ((dist (gfr s x) (gto s x)) * (s.2.1 c 0))) + 3))) g dX5_sumOf_135 rfl (nI_add (((s.1 1 + tt) + ((dist pl (gfr s x)) * (s.2.1 c 0))) + (3 + ((dist (gfr s x) (gto s x)) * (s.2.1 c 0)))) 3) rfl rfl ?_
      refine r_aload_n g dX5_sumOf_138 rfl ?_
      refine rm_get g hM fX5_32 rfl dX5_sumOf_139 ?_
      refine r_iload g dX5_sumOf_142 rfl ?_
      refine rm_iald 12 (j := gk s x) g hM rfl (by decide) rfl rfl (show gk s x < 400 by omega) dX5_sumOf_144 ?_
      refine r_topi (y := (nI (gto s x))) (hI.2.2.2.2.2.2.1 _ hgk.1).2.1 ?_
      refine r_istore g dX5_sumOf_145 rfl rfl rfl ?_
      refine r_lload g dX5_sumOf_147 rfl ?_
      refine r_aload_n g dX5_sumOf_149 rfl ?_
      refine r_iload g dX5_sumOf_150 rfl ?_
      refine r_pV g kX5_126 (ok_m_weightOf _ _ _ _ s hA hI hM.1 (j := gk s x) hgk.1) hM.1.1 rfl rfl rfl hnx hR (by decide) (Nat.zero_le _) (Nat.zero_le _) rfl rfl dX5_sumOf_152 ?_
      refine r_i2l g dX5_sumOf_155 ?_
      refine r_topl (y := (lN (gw s x))) (nI_l (show gw s x < 2 ^ 31 by omega)) ?_
      refine r_iload g dX5_sumOf_156 rfl ?_
      refine r_i2l g dX5_sumOf_158 ?_
      refine r_topl (y := (lN (tt + dist pl (gfr s x) * s.2.1 c 0))) (nI_l (by omega)) ?_
      refine r_lmul g dX5_sumOf_159 ?_
      refine r_topl (y := (lN (gw s x * (tt + dist pl (gfr s x) * s.2.1 c 0)))) (lN_mul _ _) ?_
      refine r_iload g dX5_sumOf_160 rfl ?_
      refine r_i2l g dX5_sumOf_162 ?_
      refine r_topl (y := (lN (tt + dist pl (gfr s x) * s.2.1 c 0 + (3 + dist (gfr s x) (gto s x) * s.2.1 c 0)))) (nI_l (by omega)) ?_
      refine r_ladd g dX5_sumOf_163 ?_
      refine r_topl (y := (lN (gw s x * (tt + dist pl (gfr s x) * s.2.1 c 0) + (tt + dist pl (gfr s x) * s.2.1 c 0 + (3 + dist (gfr s x) (gto s x) * s.2.1 c 0))))) (lN_add _ _) ?_
      refine r_ladd g dX5_sumOf_164 ?_
      refine r_topl (y := (lN (S + (gw s x * (tt + dist pl (gfr s x) * s.2.1 c 0) + (tt + dist pl (gfr s x) * s.2.1 c 0 + (3 + dist (gfr s x) (gto s x) * s.2.1 c 0)))))) (lN_add _ _) ?_
      refine r_lstore g dX5_sumOf_165 rfl rfl rfl ?_
      refine r_iload_n g dX5_sumOf_167 rfl ?_
      refine r_if_eq 224 g dX5_sumOf_168 (by decide) (fun c168 => ?_) (fun c168 => absurd c168 (by decide))
      refine r_iinc (v := (nI (i + 1))) g dX5_sumOf_224 rfl (nI_add i 1) rfl rfl ?_
      refine r_goto 42 g dX5_sumOf_227 (by decide) ?_
      have hS3 : S + (gw s x * (tt + dist pl (gfr s x) * s.2.1 c 0) + (tt + dist pl (gfr s x) * s.2.1 c 0 + (3 + dist (gfr s x) (gto s x) * s.2.1 c 0))) + rowC (s.2.1 c 0) (gfr s) (gto s) (gw s) (gto s x) (tt + dist pl (gfr s x) * s.2.1 c 0 + (3 + dist (gfr s x) (gto s x) * s.2.1 c 0) + 3) (p.drop (i + 1)) = gcost s c p := by rw [hdr] at hS; rw [← hS]; exact Nat.add_assoc _ _ _
      refine r_le (ls2 := [some (.ref m), some (.int (nI c)), some (.int (nI p.length)), some (.int 0), some (.int (nI (s.1 1 + (tt + dist pl (gfr s x) * s.2.1 c 0 + (3 + dist (gfr s x) (gto s x) * s.2.1 c 0) + 3)))), some (.int (nI (gto s x))), some (.long (lN (S + (gw s x * (tt + dist pl (gfr s x) * s.2.1 c 0) + (tt + dist pl (gfr s x) * s.2.1 c 0 + (3 + dist (gfr s x) (gto s x) * s.2.1 c 0)))))), none, some (.int (nI (i + 1))), none, none, none]) ⟨rfl, rfl, rfl, rfl, congrArg (fun z => Value.int (nI z)) (by omega), rfl, rfl, rfl, trivial⟩ ?_
      exact ih (i + 1) (gto s x) (tt + dist pl (gfr s x) * s.2.1 c 0 + (3 + dist (gfr s x) (gto s x) * s.2.1 c 0) + 3) (S + (gw s x * (tt + dist pl (gfr s x) * s.2.1 c 0) + (tt + dist pl (gfr s x) * s.2.1 c 0 + (3 + dist (gfr s x) (gto s x) * s.2.1 c 0)))) (by omega) hto (by omega) hS3
  refine r_aload_n g dX5_sumOf_0 rfl ?_
  refine rm_get g hM fX5_16 rfl dX5_sumOf_1 ?_
  refine r_iload_n g dX5_sumOf_4 rfl ?_
  refine rm_iald 6 (j := c) g hM rfl (by decide) rfl rfl (show c < 4 by omega) dX5_sumOf_5 ?_
  refine r_topi (y := (nI (s.2.1 c 2))) (hI.2.2.2.2.2.1 c hc).2.2.1 ?_
  refine r_aload_n g dX5_sumOf_6 rfl ?_
  refine rm_get g hM fX5_105 rfl dX5_sumOf_7 ?_
  refine r_topi (y := (nI (s.1 1))) hI.2.1 ?_
  refine r_icmp_le 22 g dX5_sumOf_10 (by decide) (fun c10 => ?_) (fun c10 => ?_)
  · skip
    have q := (nI_leI (by omega) (by omega)).mp c10
    have q9 : s.1 1 = s.1 1 + gdl s c := by unfold gdl; omega
    refine r_aload_n g dX5_sumOf_22 rfl ?_
    refine rm_get g hM fX5_105 rfl dX5_sumOf_23 ?_
    refine r_topi (y := (nI (s.1 1))) hI.2.1 ?_
    refine r_topi (y := (nI (s.1 1 + gdl s c))) (congrArg nI q9) ?_
    refine r_istore g dX5_sumOf_26 rfl rfl rfl ?_
    refine r_aload_n g dX5_sumOf_28 rfl ?_
    refine rm_get g hM fX5_13 rfl dX5_sumOf_29 ?_
    refine r_iload_n g dX5_sumOf_32 rfl ?_
    refine rm_iald 5 (j := c) g hM rfl (by decide) rfl rfl (show c < 4 by omega) dX5_sumOf_33 ?_
    refine r_topi (y := (nI (s.2.1 c 1))) (hI.2.2.2.2.2.1 c (by omega)).2.1 ?_
    refine r_istore g dX5_sumOf_34 rfl rfl rfl ?_
    refine r_lconst (v := 0) g dX5_sumOf_36 (by decide) ?_
    refine r_topl (y := lN 0) rfl ?_
    refine r_lstore g dX5_sumOf_37 rfl rfl rfl ?_
    refine r_iconst (v := 0) g dX5_sumOf_39 (by decide) ?_
    refine r_istore g dX5_sumOf_40 rfl rfl rfl ?_
    exact loop p.length 0 (s.2.1 c 1) (gdl s c) 0 (Nat.zero_add _) hcc.2.1 (by unfold gdl; omega) (Nat.zero_add _)
  · skip
    have q : ¬ s.2.1 c 2 ≤ s.1 1 := fun z => c10 (nI_le z (by omega))
    have q9 : s.2.1 c 2 = s.1 1 + gdl s c := gmax q
    refine r_aload_n g dX5_sumOf_13 rfl ?_
    refine rm_get g hM fX5_16 rfl dX5_sumOf_14 ?_
    refine r_iload_n g dX5_sumOf_17 rfl ?_
    refine rm_iald 6 (j := c) g hM rfl (by decide) rfl rfl (show c < 4 by omega) dX5_sumOf_18 ?_
    refine r_topi (y := (nI (s.2.1 c 2))) (hI.2.2.2.2.2.1 c hc).2.2.1 ?_
    refine r_goto 26 g dX5_sumOf_19 (by decide) ?_
    refine r_topi (y := (nI (s.1 1 + gdl s c))) (congrArg nI q9) ?_
    refine r_istore g dX5_sumOf_26 rfl rfl rfl ?_
    refine r_aload_n g dX5_sumOf_28 rfl ?_
    refine rm_get g hM fX5_13 rfl dX5_sumOf_29 ?_
    refine r_iload_n g dX5_sumOf_32 rfl ?_
    refine rm_iald 5 (j := c) g hM rfl (by decide) rfl rfl (show c < 4 by omega) dX5_sumOf_33 ?_
    refine r_topi (y := (nI (s.2.1 c 1))) (hI.2.2.2.2.2.1 c (by omega)).2.1 ?_
    refine r_istore g dX5_sumOf_34 rfl rfl rfl ?_
    refine r_lconst (v := 0) g dX5_sumOf_36 (by decide) ?_
    refine r_topl (y := lN 0) rfl ?_
    refine r_lstore g dX5_sumOf_37 rfl rfl rfl ?_
    refine r_iconst (v := 0) g dX5_sumOf_39 (by decide) ?_
    refine r_istore g dX5_sumOf_40 rfl rfl rfl ?_
    exact loop p.length 0 (s.2.1 c 1) (gdl s c) 0 (Nat.zero_add _) hcc.2.1 (by unfold gdl; omega) (Nat.zero_add _)
set_option maxHeartbeats 4000000 in
set_option maxRecDepth 100000 in
theorem ok_m_sumOf1 (l : Launch) (G : Nat → ClassId) (D : va_G) (base : Nat) {h0 : Hp} {nx m : Nat} {F : Nat → Int32} {A : Nat → Nat → Int32} {B : Nat → Int64} (s : AS) (hA : AI s) (hP : P1 F A s) {c : Nat} {p : List Nat} (hc : c < s.1 2) (hp6 : p.length ≤ 6) (hord : ∀ q, q < p.length → A 29 q = nI (p.getD q 0) ∧ p.getD q 0 < gn s) (hnd : p.Nodup) (hM : MO h0 m F A B) (hbm : base ≤ m) : MetP l G D base miX5_sumOf 1 0 0 [.ref m, .int (nI c), .int (nI p.length), .int 1] h0 nx (fun v h' nx' => (∃ z, v = some (.long z)) ∧ nx = nx' ∧ ∃ A1, MS h0 h' m F A1 B ∧ Wr A A1 s c p p.length) := by
  refine MetP_of (by decide +kernel) rfl ?_
  intro k g hr hR hcl hcg hcd hcb hcn hnx
  subst hcl; subst hcg; subst hcd; subst hcb
  have hM := MS.rf hM
  obtain ⟨h, hh⟩ : ∃ z, z = h0 := ⟨_, rfl⟩
  rw [← hh]
  have hM : MS h0 h m F A B := by rw [hh]; exact hM
  have hI := hP.1
  obtain ⟨⟨hn1, hn2⟩, ht, hnc, hN, -⟩ := id hA
  have hcc := hA.2.2.2.2.1 c hc
  have hg6 := gn_le hA
  show Sf k 0 0 h nx 0 [some (.ref m), some (.int (nI c)), some (.int (nI p.length)), some (.int 1), none, none, none, none, none, none, none, none] []
  have loop : ∀ e i pl tt S (A1 : Nat → Nat → Int32) (h : Hp), MS h0 h m F A1 B → Wr A A1 s c p i → i + e = p.length → pl < s.1 0 → tt ≤ 100000 + 600 * i → S + rowC (s.2.1 c 0) (gfr s) (gto s) (gw s) pl tt (p.drop i) = gcost s c p → (∀ y, y ∈ p.drop i → gE0 s c p y = rowE (s.2.1 c 0) (gfr s) (gto s) pl tt (p.drop i) y) → Sf k 0 0 h nx 42 [some (.ref m), some (.int (nI c)), some (.int (nI p.length)), some (.int 1), some (.int (nI (s.1 1 + tt))), some (.int (nI pl)), some (.long (lN S)), none, some (.int (nI i)), none, none, none] [] := by
    intro e
    induction e with
    | zero =>
      intro i pl tt S A1 h hM hW hi hpl htt hS hE
      have hi2 : i = p.length := by omega
      have hS2 : S = gcost s c p := by rw [hi2, List.drop_length] at hS; exact hS
      refine r_iload g dX5_sumOf_42 rfl ?_
      refine r_iload_n g dX5_sumOf_44 rfl ?_
      refine r_icmp_ge 230 g dX5_sumOf_45 (by decide) (fun c45 => ?_) (fun c45 => absurd (nI_le (by omega) (by omega)) c45)
      refine r_lload g dX5_sumOf_230 rfl ?_
      exact r_lret g hr (Nat.le_refl _) (Nat.le_refl _) dX5_sumOf_232 ⟨⟨_, rfl⟩, rfl, A1, hM, by rw [← hi2]; exact hW⟩
    | succ e ih =>
      intro i pl tt S A1 h hM hW hi hpl htt hS hE
      obtain ⟨x, hx⟩ : ∃ x, x = p.getD i 0 := ⟨_, rfl⟩
      have hxg : x < gn s := by rw [hx]; exact (hord i (by omega)).2
      have hgk := gk_at hxg
      have hkk := hA.2.2.2.2.2.1 _ hgk.1
      have hf : gfr s x < s.1 0 := hkk.1
      have hto : gto s x < s.1 0 := hkk.2.1
      have hd1 := dsp (sp := s.2.1 c 0) hn2 hpl hf hcc.1.2
      have hd2 := dsp (sp := s.2.1 c 0) hn2 hf hto hcc.1.2
      have hwg : gw s x ≤ 13336 := wgt_le hA _
      have hdr := drop_cons (p := p) (i := i) (by omega)
      rw [← hx] at hdr
      have hI1 : MI F A1 s := hI.congr (fun kf hk => hW.1 kf (Or.inl (by omega)))
      obtain ⟨hE1, hE2⟩ := rowE_step hdr hE (hnd.sublist (List.drop_sublist i p))
      have hnq : ∀ q, q < i → p.getD q 0 ≠ x := fun q hq z => absurd (nd_getD hnd (by omega) (by omega) (z.trans hx)) (by omega)
      refine r_iload g dX5_sumOf_42 rfl ?_
      refine r_iload_n g dX5_sumOf_44 rfl ?_
      refine r_icmp_ge 230 g dX5_sumOf_45 (by decide) (fun c45 => absurd c45 (nI_ge (by omega) (by omega))) (fun c45 => ?_)
      refine r_aload_n g dX5_sumOf_48 rfl ?_
      refine rm_get g hM fX5_65 rfl dX5_sumOf_49 ?_
      refine r_aload_n g dX5_sumOf_52 rfl ?_
      refine rm_get g hM fX5_78 rfl dX5_sumOf_53 ?_
      refine r_iload g dX5_sumOf_56 rfl ?_
      refine rm_iald 29 (j := i) g hM rfl (by decide) rfl rfl (show i < 6 by omega) dX5_sumOf_58 ?_
      refine r_topi (y := (nI x)) ((congrFun (hW.1 29 (by decide)) i).trans ((hord i (by omega)).1.trans (by rw [hx]))) ?_
      refine rm_iald 25 (j := x) g hM rfl (by decide) rfl rfl (show x < 6 by omega) dX5_sumOf_59 ?_
      refine r_topi (y := (nI (gk s x))) ((congrFun (hW.1 25 (by decide)) x).trans (hP.2.2 x hxg).1) ?_
      refine r_istore g dX5_sumOf_60 rfl rfl rfl ?_
      refine r_iload g dX5_sumOf_62 rfl ?_
      refine r_iload g dX5_sumOf_64 rfl ?_
      refine r_aload_n g dX5_sumOf_66 rfl ?_
      refine rm_get g hM fX5_29 rfl dX5_sumOf_67 ?_
      refine r_iload g dX5_sumOf_70 rfl ?_
      refine rm_iald 11 (j := gk s x) g hM rfl (by decide) rfl rfl (show gk s x < 400 by omega) dX5_sumOf_72 ?_
      refine r_topi (y := (nI (gfr s x))) (hI1.2.2.2.2.2.2.1 _ hgk.1).1 ?_
      refine r_pS g kX5_122 (ok_m_way _ _ _ _ (a := pl) (b := gfr s x) (by omega) (by omega)) rfl rfl hnx hR (by decide) (Nat.zero_le _) (Nat.zero_le _) rfl rfl dX5_sumOf_73 ?_
      refine r_aload_n g dX5_sumOf_76 rfl ?_
      refine rm_get g hM fX5_7 rfl dX5_sumOf_77 ?_
      refine r_iload_n g dX5_sumOf_80 rfl ?_
      refine rm_iald 4 (j := c) g hM rfl (by decide) rfl rfl (show c < 4 by omega) dX5_sumOf_81 ?_
      refine r_topi (y := (nI (s.2.1 c 0))) (hI1.2.2.2.2.2.1 c hc).1 ?_
      refine r_imul g dX5_sumOf_82 ?_
      refine r_topi (y := (nI ((dist pl (gfr s x)) * (s.2.1 c 0)))) (pk_mul (dist pl (gfr s x)) (s.2.1 c 0)) ?_
      refine r_iadd g dX5_sumOf_83 ?_
      refine r_topi (y := (nI ((s.1 1 + tt) + ((dist pl (gfr s x)) * (s.2.1 c 0))))) (nI_add (s.1 1 + tt) ((dist pl (gfr s x)) * (s.2.1 c 0))) ?_
      refine r_istore g dX5_sumOf_84 rfl rfl rfl ?_
      refine r_iload g dX5_sumOf_86 rfl ?_
      refine r_aload_n g dX5_sumOf_88 rfl ?_
      refine rm_get g hM fX5_105 rfl dX5_sumOf_89 ?_
      refine r_topi (y := (nI (s.1 1))) hI.2.1 ?_
      refine r_isub g dX5_sumOf_92 ?_
      refine r_topi (y := (nI (tt + dist pl (gfr s x) * s.2.1 c 0))) (nI_sb (by omega)) ?_
      refine r_istore g dX5_sumOf_93 rfl rfl rfl ?_
      refine r_iload g dX5_sumOf_95 rfl ?_
      refine r_iconst (v := 3) g dX5_sumOf_97 (by decide) ?_
      refine r_aload_n g dX5_sumOf_98 rfl ?_
      refine rm_get g hM fX5_29 rfl dX5_sumOf_99 ?_
      refine r_iload g dX5_sumOf_102 rfl ?_
      refine rm_iald 11 (j := gk s x) g hM rfl (by decide) rfl rfl (show gk s x < 400 by omega) dX5_sumOf_104 ?_
      refine r_topi (y := (nI (gfr s x))) (hI1.2.2.2.2.2.2.1 _ hgk.1).1 ?_
      refine r_aload_n g dX5_sumOf_105 rfl ?_
      refine rm_get g hM fX5_32 rfl dX5_sumOf_106 ?_
      refine r_iload g dX5_sumOf_109 rfl ?_
      refine rm_iald 12 (j := gk s x) g hM rfl (by decide) rfl rfl (show gk s x < 400 by omega) dX5_sumOf_111 ?_
      refine r_topi (y := (nI (gto s x))) (hI1.2.2.2.2.2.2.1 _ hgk.1).2.1 ?_
      refine r_pS g kX5_122 (ok_m_way _ _ _ _ (a := gfr s x) (b := gto s x) (by omega) (by omega)) rfl rfl hnx hR (by decide) (Nat.zero_le _) (Nat.zero_le _) rfl rfl dX5_sumOf_112 ?_
      refine r_aload_n g dX5_sumOf_115 rfl ?_
      refine rm_get g hM fX5_7 rfl dX5_sumOf_116 ?_
      refine r_iload_n g dX5_sumOf_119 rfl ?_
      refine rm_iald 4 (j := c) g hM rfl (by decide) rfl rfl (show c < 4 by omega) dX5_sumOf_120 ?_
      refine r_topi (y := (nI (s.2.1 c 0))) (hI1.2.2.2.2.2.1 c hc).1 ?_
      refine r_imul g dX5_sumOf_121 ?_
      refine r_topi (y := (nI ((dist (gfr s x) (gto s x)) * (s.2.1 c 0)))) (pk_mul (dist (gfr s x) (gto s x)) (s.2.1 c 0)) ?_
      refine r_iadd g dX5_sumOf_122 ?_
      refine r_topi (y := (nI (3 + ((dist (gfr s x) (gto s x)) * (s.2.1 c 0))))) (nI_add 3 ((dist (gfr s x) (gto s x)) * (s.2.1 c 0))) ?_
      refine r_iadd g dX5_sumOf_123 ?_
      refine r_topi (y := (nI (((s.1 1 + tt) + ((dist pl (gfr s x)) * (s.2.1 c 0))) + (3 + ((dist (gfr s x) (gto s x)) * (s.2.1 c 0)))))) (nI_add ((s.1 1 + tt) + ((dist pl (gfr s x)) * (s.2.1 c 0))) (3 + ((dist (gfr s x) (gto s x)) * (s.2.1 c 0)))) ?_
      refine r_istore g dX5_sumOf_124 rfl rfl rfl ?_
      refine r_iload g dX5_sumOf_126 rfl ?_
      refine r_aload_n g dX5_sumOf_128 rfl ?_
      refine rm_get g hM fX5_105 rfl dX5_sumOf_129 ?_
      refine r_topi (y := (nI (s.1 1))) hI.2.1 ?_
      refine r_isub g dX5_sumOf_132 ?_
      refine r_topi (y := (nI (tt + dist pl (gfr s x) * s.2.1 c 0 + (3 + dist (gfr s x) (gto s x) * s.2.1 c 0)))) (nI_sb (by omega)) ?_
      refine r_istore g dX5_sumOf_133 rfl rfl rfl ?_
      refine r_iinc (v := (nI (((s.1 1 + tt) + ((dist pl (gfr s x)) * (s.2.1 c 0))) + (3 + ((dist (gfr s x) (gto s x)) * (s.2.1 c 0))) + 3))) g dX5_sumOf_135 rfl (nI_add (((s.1 1 + tt) + ((dist pl (gfr s x)) * (s.2.1 c 0))) + (3 + ((dist (gfr s x) (gto s x)) * (s.2.1 c 0)))) 3) rfl rfl ?_
      refine r_aload_n g dX5_sumOf_138 rfl ?_
      refine rm_get g hM fX5_32 rfl dX5_sumOf_139 ?_
      refine r_iload g dX5_sumOf_142 rfl ?_
      refine rm_iald 12 (j := gk s x) g hM rfl (by decide) rfl rfl (show gk s x < 400 by omega) dX5_sumOf_144 ?_
      refine r_topi (y := (nI (gto s x))) (hI1.2.2.2.2.2.2.1 _ hgk.1).2.1 ?_
      refine r_istore g dX5_sumOf_145 rfl rfl rfl ?_
      refine r_lload g dX5_sumOf_147 rfl ?_
      refine r_aload_n g dX5_sumOf_149 rfl ?_
      refine r_iload g dX5_sumOf_150 rfl ?_
      refine r_pV g kX5_126 (ok_m_weightOf _ _ _ _ s hA hI1 hM.1 (j := gk s x) hgk.1) hM.1.1 rfl rfl rfl hnx hR (by decide) (Nat.zero_le _) (Nat.zero_le _) rfl rfl dX5_sumOf_152 ?_
      refine r_i2l g dX5_sumOf_155 ?_
      refine r_topl (y := (lN (gw s x))) (nI_l (show gw s x < 2 ^ 31 by omega)) ?_
      refine r_iload g dX5_sumOf_156 rfl ?_
      refine r_i2l g dX5_sumOf_158 ?_
      refine r_topl (y := (lN (tt + dist pl (gfr s x) * s.2.1 c 0))) (nI_l (by omega)) ?_
      refine r_lmul g dX5_sumOf_159 ?_
      refine r_topl (y := (lN (gw s x * (tt + dist pl (gfr s x) * s.2.1 c 0)))) (lN_mul _ _) ?_
      refine r_iload g dX5_sumOf_160 rfl ?_
      refine r_i2l g dX5_sumOf_162 ?_
      refine r_topl (y := (lN (tt + dist pl (gfr s x) * s.2.1 c 0 + (3 + dist (gfr s x) (gto s x) * s.2.1 c 0)))) (nI_l (by omega)) ?_
      refine r_ladd g dX5_sumOf_163 ?_
      refine r_topl (y := (lN (gw s x * (tt + dist pl (gfr s x) * s.2.1 c 0) + (tt + dist pl (gfr s x) * s.2.1 c 0 + (3 + dist (gfr s x) (gto s x) * s.2.1 c 0))))) (lN_add _ _) ?_
      refine r_ladd g dX5_sumOf_164 ?_
      refine r_topl (y := (lN (S + (gw s x * (tt + dist pl (gfr s x) * s.2.1 c 0) + (tt + dist pl (gfr s x) * s.2.1 c 0 + (3 + dist (gfr s x) (gto s x) * s.2.1 c 0)))))) (lN_add _ _) ?_
      refine r_lstore g dX5_sumOf_165 rfl rfl rfl ?_
      refine r_iload_n g dX5_sumOf_167 rfl ?_
      refine r_if_eq 224 g dX5_sumOf_168 (by decide) (fun c168 => absurd c168 (by decide)) (fun c168 => ?_)
      refine r_aload_n g dX5_sumOf_171 rfl ?_
      refine rm_get g hM fX5_47 rfl dX5_sumOf_172 ?_
      refine r_iload g dX5_sumOf_175 rfl ?_
      refine r_iload_n g dX5_sumOf_177 rfl ?_
      refine rm_iast 18 (j := gk s x) g hM hbm rfl (by decide) rfl rfl (show gk s x < 400 by omega) dX5_sumOf_178 ?_
      intro h_1 hM
      refine r_aload_n g dX5_sumOf_179 rfl ?_
      refine rm_get g hM fX5_50 rfl dX5_sumOf_180 ?_
      refine r_iload g dX5_sumOf_183 rfl ?_
      refine r_iload g dX5_sumOf_185 rfl ?_
      refine rm_iast 19 (j := gk s x) g hM hbm rfl (by decide) rfl rfl (show gk s x < 400 by omega) dX5_sumOf_187 ?_
      intro h_2 hM
      refine r_aload_n g dX5_sumOf_188 rfl ?_
      refine rm_get g hM fX5_53 rfl dX5_sumOf_189 ?_
      refine r_iload g dX5_sumOf_192 rfl ?_
      refine r_iload g dX5_sumOf_194 rfl ?_
      refine rm_iast 20 (j := gk s x) g hM hbm rfl (by decide) rfl rfl (show gk s x < 400 by omega) dX5_sumOf_196 ?_
      intro h_3 hM
      refine r_aload_n g dX5_sumOf_197 rfl ?_
      refine rm_get g hM fX5_56 rfl dX5_sumOf_198 ?_
      refine r_iload g dX5_sumOf_201 rfl ?_
      refine r_aload_n g dX5_sumOf_203 rfl ?_
      refine r_iload g dX5_sumOf_204 rfl ?_
      refine r_pV g kX5_126 (ok_m_weightOf _ _ _ _ s hA (hI1.congr (fun kf hk => by rw [upA_ne (by omega), upA_ne (by omega), upA_ne (by omega)])) hM.1 (j := gk s x) hgk.1) hM.1.1 rfl rfl rfl hnx hR (by decide) (Nat.zero_le _) (Nat.zero_le _) rfl rfl dX5_sumOf_206 ?_
      refine rm_iast 21 (j := gk s x) g hM hbm rfl (by decide) rfl rfl (show gk s x < 400 by omega) dX5_sumOf_209 ?_
      intro h_4 hM
      refine r_aload_n g dX5_sumOf_210 rfl ?_
      refine rm_get g hM fX5_59 rfl dX5_sumOf_211 ?_
      refine r_bipush (v := 6) g dX5_sumOf_214 (by decide) ?_
      refine r_iload_n g dX5_sumOf_216 rfl ?_
      refine r_imul g dX5_sumOf_217 ?_
      refine r_topi (y := (nI (6 * c))) (pk_mul 6 c) ?_
      refine r_iload g dX5_sumOf_218 rfl ?_
      refine r_iadd g dX5_sumOf_220 ?_
      refine r_topi (y := (nI ((6 * c) + i))) (nI_add (6 * c) i) ?_
      refine r_iload g dX5_sumOf_221 rfl ?_
      refine rm_iast 22 (j := (6 * c) + i) g hM hbm rfl (by decide) rfl rfl (show 6 * c + i < 24 by omega) dX5_sumOf_223 ?_
      intro h_5 hM
      refine r_iinc (v := (nI (i + 1))) g dX5_sumOf_224 rfl (nI_add i 1) rfl rfl ?_
      refine r_goto 42 g dX5_sumOf_227 (by decide) ?_
      have hS3 : S + (gw s x * (tt + dist pl (gfr s x) * s.2.1 c 0) + (tt + dist pl (gfr s x) * s.2.1 c 0 + (3 + dist (gfr s x) (gto s x) * s.2.1 c 0))) + rowC (s.2.1 c 0) (gfr s) (gto s) (gw s) (gto s x) (tt + dist pl (gfr s x) * s.2.1 c 0 + (3 + dist (gfr s x) (gto s x) * s.2.1 c 0) + 3) (p.drop (i + 1)) = gcost s c p := by rw [hdr] at hS; rw [← hS]; exact Nat.add_assoc _ _ _
      refine r_le (ls2 := [some (.ref m), some (.int (nI c)), some (.int (nI p.length)), some (.int 1), some (.int (nI (s.1 1 + (tt + dist pl (gfr s x) * s.2.1 c 0 + (3 + dist (gfr s x) (gto s x) * s.2.1 c 0) + 3)))), some (.int (nI (gto s x))), some (.long (lN (S + (gw s x * (tt + dist pl (gfr s x) * s.2.1 c 0) + (tt + dist pl (gfr s x) * s.2.1 c 0 + (3 + dist (gfr s x) (gto s x) * s.2.1 c 0)))))), none, some (.int (nI (i + 1))), none, none, none]) ⟨rfl, rfl, rfl, rfl, congrArg (fun z => Value.int (nI z)) (by omega), rfl, rfl, rfl, trivial⟩ ?_
      exact ih (i + 1) (gto s x) (tt + dist pl (gfr s x) * s.2.1 c 0 + (3 + dist (gfr s x) (gto s x) * s.2.1 c 0) + 3) (S + (gw s x * (tt + dist pl (gfr s x) * s.2.1 c 0) + (tt + dist pl (gfr s x) * s.2.1 c 0 + (3 + dist (gfr s x) (gto s x) * s.2.1 c 0)))) _ _ hM (hW.step hx (fun q hq z => hnq q hq (gk_inj (hord q (by omega)).2 hxg z)) hE1) (by omega) hto (by omega) hS3 hE2
  refine r_aload_n g dX5_sumOf_0 rfl ?_
  refine rm_get g hM fX5_16 rfl dX5_sumOf_1 ?_
  refine r_iload_n g dX5_sumOf_4 rfl ?_
  refine rm_iald 6 (j := c) g hM rfl (by decide) rfl rfl (show c < 4 by omega) dX5_sumOf_5 ?_
  refine r_topi (y := (nI (s.2.1 c 2))) (hI.2.2.2.2.2.1 c hc).2.2.1 ?_
  refine r_aload_n g dX5_sumOf_6 rfl ?_
  refine rm_get g hM fX5_105 rfl dX5_sumOf_7 ?_
  refine r_topi (y := (nI (s.1 1))) hI.2.1 ?_
  refine r_icmp_le 22 g dX5_sumOf_10 (by decide) (fun c10 => ?_) (fun c10 => ?_)
  · skip
    have q := (nI_leI (by omega) (by omega)).mp c10
    have q9 : s.1 1 = s.1 1 + gdl s c := by unfold gdl; omega
    refine r_aload_n g dX5_sumOf_22 rfl ?_
    refine rm_get g hM fX5_105 rfl dX5_sumOf_23 ?_
    refine r_topi (y := (nI (s.1 1))) hI.2.1 ?_
    refine r_topi (y := (nI (s.1 1 + gdl s c))) (congrArg nI q9) ?_
    refine r_istore g dX5_sumOf_26 rfl rfl rfl ?_
    refine r_aload_n g dX5_sumOf_28 rfl ?_
    refine rm_get g hM fX5_13 rfl dX5_sumOf_29 ?_
    refine r_iload_n g dX5_sumOf_32 rfl ?_
    refine rm_iald 5 (j := c) g hM rfl (by decide) rfl rfl (show c < 4 by omega) dX5_sumOf_33 ?_
    refine r_topi (y := (nI (s.2.1 c 1))) (hI.2.2.2.2.2.1 c (by omega)).2.1 ?_
    refine r_istore g dX5_sumOf_34 rfl rfl rfl ?_
    refine r_lconst (v := 0) g dX5_sumOf_36 (by decide) ?_
    refine r_topl (y := lN 0) rfl ?_
    refine r_lstore g dX5_sumOf_37 rfl rfl rfl ?_
    refine r_iconst (v := 0) g dX5_sumOf_39 (by decide) ?_
    refine r_istore g dX5_sumOf_40 rfl rfl rfl ?_
    exact loop p.length 0 (s.2.1 c 1) (gdl s c) 0 A h hM ⟨fun _ _ => rfl, fun q hq => absurd hq (Nat.not_lt_zero _), fun _ _ => ⟨rfl, rfl, rfl, rfl⟩, fun _ _ => rfl⟩ (Nat.zero_add _) hcc.2.1 (by unfold gdl; omega) (Nat.zero_add _) (fun _ _ => rfl)
  · skip
    have q : ¬ s.2.1 c 2 ≤ s.1 1 := fun z => c10 (nI_le z (by omega))
    have q9 : s.2.1 c 2 = s.1 1 + gdl s c := gmax q
    refine r_aload_n g dX5_sumOf_13 rfl ?_
    refine rm_get g hM fX5_16 rfl dX5_sumOf_14 ?_
    refine r_iload_n g dX5_sumOf_17 rfl ?_
    refine rm_iald 6 (j := c) g hM rfl (by decide) rfl rfl (show c < 4 by omega) dX5_sumOf_18 ?_
    refine r_topi (y := (nI (s.2.1 c 2))) (hI.2.2.2.2.2.1 c hc).2.2.1 ?_
    refine r_goto 26 g dX5_sumOf_19 (by decide) ?_
    refine r_topi (y := (nI (s.1 1 + gdl s c))) (congrArg nI q9) ?_
    refine r_istore g dX5_sumOf_26 rfl rfl rfl ?_
    refine r_aload_n g dX5_sumOf_28 rfl ?_
    refine rm_get g hM fX5_13 rfl dX5_sumOf_29 ?_
    refine r_iload_n g dX5_sumOf_32 rfl ?_
    refine rm_iald 5 (j := c) g hM rfl (by decide) rfl rfl (show c < 4 by omega) dX5_sumOf_33 ?_
    refine r_topi (y := (nI (s.2.1 c 1))) (hI.2.2.2.2.2.1 c (by omega)).2.1 ?_
    refine r_istore g dX5_sumOf_34 rfl rfl rfl ?_
    refine r_lconst (v := 0) g dX5_sumOf_36 (by decide) ?_
    refine r_topl (y := lN 0) rfl ?_
    refine r_lstore g dX5_sumOf_37 rfl rfl rfl ?_
    refine r_iconst (v := 0) g dX5_sumOf_39 (by decide) ?_
    refine r_istore g dX5_sumOf_40 rfl rfl rfl ?_
    exact loop p.length 0 (s.2.1 c 1) (gdl s c) 0 A h hM ⟨fun _ _ => rfl, fun q hq => absurd hq (Nat.not_lt_zero _), fun _ _ => ⟨rfl, rfl, rfl, rfl⟩, fun _ _ => rfl⟩ (Nat.zero_add _) hcc.2.1 (by unfold gdl; omega) (Nat.zero_add _) (fun _ _ => rfl)
