theorem s_l9 : ∀ n, n < 32 → ((nI n &&& 31).toBitVec.smod 32).toNat = n := by decide +kernel
theorem sh_n {S i : Nat} (hS : S < 2 ^ 31) (hi : i < 32) : nI S >>> (nI i &&& 31) = nI (S / 2 ^ i) := pk_shrN hS _ i (s_l9 i hi)
theorem and_1 {n : Nat} (h : n < 2 ^ 31) : nI n &&& 1 = nI (n % 2) := pk_andN (k := 1) (by omega) rfl
theorem tb_1 {S i : Nat} (h : S / 2 ^ i % 2 = 1) : S.testBit i = true := by rw [Nat.testBit_eq_decide_div_mod_eq, decide_eq_true h]
theorem tb_0 {S i : Nat} (h : ¬ S / 2 ^ i % 2 = 1) : S.testBit i = false := by rw [Nat.testBit_eq_decide_div_mod_eq, decide_eq_false h]
theorem elems_1 {S i : Nat} (h : S.testBit i = true) : elems S (i + 1) = elems S i ++ [i] := by
  unfold elems
  rw [List.range_succ, List.filter_append]
  simp [h]
theorem elems_0 {S i : Nat} (h : S.testBit i = false) : elems S (i + 1) = elems S i := by
  unfold elems
  rw [List.range_succ, List.filter_append]
  simp [h]
theorem elems_len (S : Nat) : ∀ n, (elems S n).length ≤ n
  | 0 => Nat.le_refl _
  | n + 1 => by
    have := elems_len S n
    by_cases h : S.testBit n = true
    · rw [elems_1 h, List.length_append]; simp; omega
    · rw [elems_0 (by simpa using h)]; omega
theorem elems_up {S n : Nat} (h : S < 2 ^ n) : ∀ k, elems S (n + k) = elems S n
  | 0 => rfl
  | k + 1 => by
    rw [← Nat.add_assoc, elems_0 (Nat.testBit_lt_two_pow (Nat.lt_of_lt_of_le h (Nat.pow_le_pow_right (by decide) (by omega)))), elems_up h k]
theorem elems_6 {S n : Nat} (h : S < 2 ^ n) (hn : n ≤ 6) : elems S n = elems S 6 := by
  have := elems_up h (6 - n)
  rw [show n + (6 - n) = 6 by omega] at this
  exact this.symm
theorem getD_app {l : List Nat} {x q : Nat} : (l ++ [x]).getD q 0 = if q < l.length then l.getD q 0 else if q = l.length then x else 0 := by
  rw [List.getD_eq_getElem?_getD, List.getD_eq_getElem?_getD]
  by_cases h : q < l.length
  · rw [if_pos h, List.getElem?_append_left h]
  · rw [if_neg h, List.getElem?_append_right (by omega)]
    by_cases h2 : q = l.length
    · subst h2; simp
    · rw [if_neg h2, List.getElem?_eq_none (by simp; omega)]; rfl
def fI (f : Nat) : Int32 := if f = 6 then -1 else nI f
theorem firstF_1 {s : AS} {c S n : Nat} (h : S.testBit n = true ∧ s.2.2 (gk s n) 5 = c) : firstF s c S (n + 1) = n := if_pos h
theorem firstF_0 {s : AS} {c S n : Nat} (h : ¬ (S.testBit n = true ∧ s.2.2 (gk s n) 5 = c)) : firstF s c S (n + 1) = firstF s c S n := if_neg h
theorem firstF_at (s : AS) (c S : Nat) : ∀ n, n ≤ 6 → firstF s c S n = 6 ∨ (firstF s c S n < n ∧ S.testBit (firstF s c S n) = true ∧ s.2.2 (gk s (firstF s c S n)) 5 = c)
  | 0, _ => Or.inl rfl
  | n + 1, h => by
    unfold firstF
    by_cases q : S.testBit n = true ∧ s.2.2 (gk s n) 5 = c
    · rw [if_pos q]; exact Or.inr ⟨by omega, q.1, q.2⟩
    · rw [if_neg q]
      rcases firstF_at s c S n (by omega) with z | z
      · exact Or.inl z
      · exact Or.inr ⟨by omega, z.2⟩
theorem ne_of_bit : ∀ S, S < 64 → ∀ f, f < 6 → S.testBit f = true → 0 < (elems S 6).length := by decide +kernel
theorem lc_lt {a b : Int64} : lg_cmp a b < 0 ↔ ¬ b ≤ a := by
  rw [← lg_cmp_ge, Int32.not_le]
/-- what stands for a best row in best and bestRows -/
def Rp (A1 : Nat → Nat → Int32) (B1 : Nat → Int64) (t : Nat) (a : Option (Nat × List Nat)) : Prop := match a with
  | none => B1 t = -1
  | some b => B1 t = lN b.1 ∧ b.1 < 2 ^ 62 ∧ ∀ i, i < b.2.length → A1 28 (6 * t + i) = nI (b.2.getD i 0)
/-- nothing but order, the row at t, its best -/
def FrR (A : Nat → Nat → Int32) (B : Nat → Int64) (A1 : Nat → Nat → Int32) (B1 : Nat → Int64) (t : Nat) : Prop := (∀ kf, kf ≠ 28 → kf ≠ 29 → A1 kf = A kf) ∧ (∀ j, (j < 6 * t ∨ 6 * t + 6 ≤ j) → A1 28 j = A 28 j) ∧ ∀ j, j ≠ t → B1 j = B j
theorem rowC_le {s : AS} (hA : AI s) {c : Nat} (hc : c < s.1 2) : ∀ (p : List Nat) (pl tt : Nat), pl < s.1 0 → tt + 600 * p.length ≤ 104000 → (∀ x, x ∈ p → x < gn s) → rowC (s.2.1 c 0) (gfr s) (gto s) (gw s) pl tt p ≤ p.length * 2000000000
  | [], _, _, _, _, _ => Nat.zero_le _
  | x :: r, pl, tt, hpl, htt, hx => by
    have hxg := hx x List.mem_cons_self
    have hkk := hA.2.2.2.2.2.1 _ (gk_at hxg).1
    have hcc := hA.2.2.2.2.1 c hc
    have hf : gfr s x < s.1 0 := hkk.1
    have hto : gto s x < s.1 0 := hkk.2.1
    have hd1 := dsp (sp := s.2.1 c 0) hA.1.2 hpl hf hcc.1.2
    have hd2 := dsp (sp := s.2.1 c 0) hA.1.2 hf hto hcc.1.2
    have hwg : gw s x ≤ 13336 := wgt_le hA _
    rw [List.length_cons] at htt
    have ih := rowC_le hA hc r (gto s x) (tt + dist pl (gfr s x) * s.2.1 c 0 + (3 + dist (gfr s x) (gto s x) * s.2.1 c 0) + 3) hto (by omega) (fun y hy => hx y (List.mem_cons_of_mem _ hy))
    have hm : gw s x * (tt + dist pl (gfr s x) * s.2.1 c 0) ≤ 13336 * 105000 := Nat.mul_le_mul hwg (by omega)
    rw [List.length_cons]
    show _ + _ ≤ _
    omega
theorem gcost_lt {s : AS} (hA : AI s) {c : Nat} (hc : c < s.1 2) {p : List Nat} (hp : p.length ≤ 6) (hx : ∀ x, x ∈ p → x < gn s) : gcost s c p < 2 ^ 40 := by
  have hcc := hA.2.2.2.2.1 c hc
  have := rowC_le hA hc p (s.2.1 c 1) (gdl s c) hcc.2.1 (by unfold gdl; omega) hx
  unfold gcost
  omega
theorem nxtL_some {p q : List Nat} (h : nxtL p = some q) : ∃ o, nxtF (fun i => p.getD i 0) p.length = some o ∧ ∀ i, i < p.length → q.getD i 0 = o i := by
  unfold nxtL at h
  cases ho : nxtF (fun i => p.getD i 0) p.length with
  | none => rw [ho] at h; cases h
  | some o =>
    rw [ho] at h
    refine ⟨o, rfl, fun i hi => ?_⟩
    have h2 := Option.some.inj h
    rw [← h2, List.getD_eq_getElem?_getD, List.getElem?_map, List.getElem?_range hi]
    rfl
theorem nxtL_none {p : List Nat} (h : nxtL p = none) : nxtF (fun i => p.getD i 0) p.length = none := by
  unfold nxtL at h
  cases ho : nxtF (fun i => p.getD i 0) p.length with
  | none => rfl
  | some o => rw [ho] at h; cases h
theorem mem_getD {p : List Nat} {i : Nat} (h : i < p.length) : p.getD i 0 ∈ p := by
  rw [List.getD_eq_getElem?_getD, List.getElem?_eq_getElem h]
  exact List.getElem_mem h
theorem bit_lt {S n x : Nat} (hS : S < 2 ^ n) (h : S.testBit x = true) : x < n := by
  rcases Nat.lt_or_ge x n with q | q
  · exact q
  · rw [Nat.testBit_lt_two_pow (Nat.lt_of_lt_of_le hS (Nat.pow_le_pow_right (by decide) q))] at h
    cases h
set_option maxHeartbeats 4000000 in
set_option maxRecDepth 100000 in
theorem ok_m_findRows (l : Launch) (G : Nat → ClassId) (D : va_G) (base : Nat) {h0 : Hp} {nx m : Nat} {F : Nat → Int32} {A : Nat → Nat → Int32} {B : Nat → Int64} (s : AS) (hA : AI s) (hP : P1 F A s) {c S : Nat} (hc : c < s.1 2) (hS : S < 2 ^ gn s) (hM : MO h0 m F A B) (hbm : base ≤ m) : MetP l G D base miX5_findRows 3 0 0 [.ref m, .int (nI c), .int (nI S)] h0 nx (fun v h' nx' => v = none ∧ nx = nx' ∧ ∃ A1 B1, MS h0 h' m F A1 B1 ∧ FrR A B A1 B1 (64 * c + S) ∧ Rp A1 B1 (64 * c + S) (gbest s c S)) := by
  refine MetP_of (by decide +kernel) rfl ?_
  intro k g hr hR hcl hcg hcd hcb hcn hnx
  subst hcl; subst hcg; subst hcd; subst hcb
  have hM := MS.rf hM
  obtain ⟨h, hh⟩ : ∃ z, z = h0 := ⟨_, rfl⟩
  rw [← hh]
  have hM : MS h0 h m F A B := by rw [hh]; exact hM
  have hI := hP.1
  obtain ⟨⟨hn1, hn2⟩, ht, hnc, hN, -⟩ := id hA
  have hg6 := gn_le hA
  have hS64 : S < 64 := Nat.lt_of_lt_of_le hS (Nat.pow_le_pow_right (n := 2) (by decide) hg6)
  show Sf k 0 0 h nx 0 [some (.ref m), some (.int (nI c)), some (.int (nI S)), none, none, none, none, none, none, none] []
  have loop2 : ∀ (ff n6 : Nat) (rest : List (List Nat)) (p : List Nat) (a : Option (Nat × List Nat)) (A1 : Nat → Nat → Int32) (B1 : Nat → Int64) (h : Hp), MS h0 h m F A1 B1 → FrR A B A1 B1 (64 * c + S) → Rp A1 B1 (64 * c + S) a → chainB (p :: rest) = true → (∀ q, q ∈ p :: rest → q.length = n6 ∧ ∀ x ∈ q, x < gn s) → (∀ q, q < p.length → A1 29 q = nI (p.getD q 0)) → brs (gcost s c) (okF ff) (p :: rest) a = gbest s c S → (ff = 6 ∨ ff < 6 ∧ 0 < n6) → n6 ≤ 6 → Sf k 0 0 h nx 90 [some (.ref m), some (.int (nI c)), some (.int (nI S)), some (.int (nI p.length)), some (.int (fI ff)), some (.int (nI (64 * c + S))), some (.int 1), none, none, none] [] := by
    intro ff n6 rest
    induction rest with
    | nil =>
      intro p a A1 B1 h hM hF hRp hch hl hord hbr hff hn66
      have hpl := (hl p List.mem_cons_self).1
      have hpg := (hl p List.mem_cons_self).2
      have hP1 : P1 F A1 s := hP.congr (fun kf hk => hF.1 kf (by omega) (by omega))
      have hcz := gcost_lt hA hc (by omega) hpg
      have turn : ∀ (a2 : Option (Nat × List Nat)) (A2 : Nat → Nat → Int32) (B2 : Nat → Int64) (h : Hp) (z9 : List (Option Value)), MS h0 h m F A2 B2 → FrR A B A2 B2 (64 * c + S) → Rp A2 B2 (64 * c + S) a2 → (∀ q, q < p.length → A2 29 q = nI (p.getD q 0)) → brs (gcost s c) (okF ff) [] a2 = gbest s c S → Sf k 0 0 h nx 189 [some (.ref m), some (.int (nI c)), some (.int (nI S)), some (.int (nI p.length)), some (.int (fI ff)), some (.int (nI (64 * c + S))), some (.int 1), none, none, none] [] := by
        intro a2 A2 B2 h _ hM hF hRp hord hbr
        refine r_aload_n g dX5_findRows_189 rfl ?_
        refine r_iload_n g dX5_findRows_190 rfl ?_
        refine r_callV g kX5_139 (ok_m_nextOrder _ _ _ _ hM.1 hbm (n := p.length) (o := fun i => p.getD i 0) (by omega) (fun q hq => ⟨hord q hq, by have := hpg _ (mem_getD hq); show p.getD q 0 < 2 ^ 31; omega⟩)) hM.1.1 rfl rfl rfl hnx hR (by decide) (Nat.zero_le _) (Nat.zero_le _) rfl rfl dX5_findRows_191 ?_
        rintro v9 h_1 nx9 ⟨rfl, f9, hM9, hv9⟩ -
        have hM := hM.then hM9
        have hno := nxtL_none (of_decide_eq_true hch)
        rw [hno] at hv9
        subst hv9
        refine r_istore g dX5_findRows_194 rfl rfl rfl ?_
        refine r_goto 90 g dX5_findRows_196 (by decide) ?_
        refine r_iload g dX5_findRows_90 rfl ?_
        refine r_if_eq 199 g dX5_findRows_92 (by decide) (fun c92 => ?_) (fun c92 => absurd c92 (by decide))
        exact r_vret g hr (Nat.le_refl _) (Nat.le_refl _) dX5_findRows_199 ⟨rfl, rfl, upA A2 29 f9, B2, hM, ⟨fun kf h1 h2 => (upA_ne h2).trans (hF.1 kf h1 h2), hF.2⟩, by rw [← hbr]; exact hRp⟩
      rw [brs_cons] at hbr
      have bad : okF ff p = false → Sf k 0 0 h nx 189 [some (.ref m), some (.int (nI c)), some (.int (nI S)), some (.int (nI p.length)), some (.int (fI ff)), some (.int (nI (64 * c + S))), some (.int 1), none, none, none] [] := by
        intro hok
        rw [if_neg (by rw [hok]; decide)] at hbr
        exact turn a A1 B1 h [] hM hF hRp hord hbr
      have good : okF ff p = true → Sf k 0 0 h nx 111 [some (.ref m), some (.int (nI c)), some (.int (nI S)), some (.int (nI p.length)), some (.int (fI ff)), some (.int (nI (64 * c + S))), some (.int 1), none, none, none] [] := by
        intro hok
        rw [if_pos hok] at hbr
        have take : ∀ (h : Hp), MS h0 h m F A1 B1 → brs (gcost s c) (okF ff) [] (some (gcost s c p, p)) = gbest s c S → Sf k 0 0 h nx 145 [some (.ref m), some (.int (nI c)), some (.int (nI S)), some (.int (nI p.length)), some (.int (fI ff)), some (.int (nI (64 * c + S))), some (.int 1), some (.long (lN (gcost s c p))), none, none] [] := by
          intro h hM hbr
          have loop3 : ∀ e i (f : Nat → Int32) (h : Hp), MS h0 h m F (upA A1 28 f) (vp_updL B1 (64 * c + S) (lN (gcost s c p))) → i + e = p.length → (∀ q, q < i → f (6 * (64 * c + S) + q) = nI (p.getD q 0)) → (∀ j, (j < 6 * (64 * c + S) ∨ 6 * (64 * c + S) + 6 ≤ j) → f j = A 28 j) → Sf k 0 0 h nx 157 [some (.ref m), some (.int (nI c)), some (.int (nI S)), some (.int (nI p.length)), some (.int (fI ff)), some (.int (nI (64 * c + S))), some (.int 1), some (.long (lN (gcost s c p))), none, some (.int (nI i))] [] := by
            intro e
            induction e with
            | zero =>
              intro i f h hM hi hf1 hf2
              refine r_iload g dX5_findRows_157 rfl ?_
              refine r_iload_n g dX5_findRows_159 rfl ?_
              refine r_icmp_ge 189 g dX5_findRows_160 (by decide) (fun c160 => ?_) (fun c160 => absurd (nI_le (by omega) (by omega)) c160)
              refine r_le (ls2 := [some (.ref m), some (.int (nI c)), some (.int (nI S)), some (.int (nI p.length)), some (.int (fI ff)), some (.int (nI (64 * c + S))), some (.int 1), none, none, none]) ⟨rfl, rfl, rfl, rfl, rfl, rfl, rfl, trivial⟩ ?_
              exact turn (some (gcost s c p, p)) _ _ h [] hM ⟨fun kf h1 h2 => (upA_ne h1).trans (hF.1 kf h1 h2), hf2, fun j hj => (pk_uLn hj).trans (hF.2.2 j hj)⟩ ⟨pk_uLs, by show gcost s c p < 2 ^ 62; omega, fun i2 hi2 => hf1 i2 (by have hi3 : i2 < p.length := hi2; omega)⟩ hord hbr
            | succ e ih3 =>
              intro i f h hM hi hf1 hf2
              refine r_iload g dX5_findRows_157 rfl ?_
              refine r_iload_n g dX5_findRows_159 rfl ?_
              refine r_icmp_ge 189 g dX5_findRows_160 (by decide) (fun c160 => absurd c160 (nI_ge (by omega) (by omega))) (fun c160 => ?_)
              refine r_aload_n g dX5_findRows_163 rfl ?_
              refine rm_get g hM fX5_75 rfl dX5_findRows_164 ?_
              refine r_bipush (v := 6) g dX5_findRows_167 (by decide) ?_
              refine r_iload g dX5_findRows_169 rfl ?_
              refine r_imul g dX5_findRows_171 ?_
              refine r_topi (y := (nI (6 * (64 * c + S)))) (pk_mul 6 (64 * c + S)) ?_
              refine r_iload g dX5_findRows_172 rfl ?_
              refine r_iadd g dX5_findRows_174 ?_
              refine r_topi (y := (nI ((6 * (64 * c + S)) + i))) (nI_add (6 * (64 * c + S)) i) ?_
              refine r_aload_n g dX5_findRows_175 rfl ?_
              refine rm_get g hM fX5_78 rfl dX5_findRows_176 ?_
              refine r_iload g dX5_findRows_179 rfl ?_
              refine rm_iald 29 (j := i) g hM rfl (by decide) rfl rfl (show i < 6 by omega) dX5_findRows_181 ?_
              refine r_topi (y := (nI (p.getD i 0))) (hord i (by omega)) ?_
              refine rm_iast 28 (j := (6 * (64 * c + S)) + i) g hM hbm rfl (by decide) rfl rfl (show 6 * (64 * c + S) + i < 1536 by omega) dX5_findRows_182 ?_
              intro h_2 hM
              refine r_iinc (v := (nI (i + 1))) g dX5_findRows_183 rfl (nI_add i 1) rfl rfl ?_
              refine r_goto 157 g dX5_findRows_186 (by decide) ?_
              simp only [upA_upA, upA_eq] at hM
              exact ih3 (i + 1) _ _ hM (by omega) (fun q hq => by
                by_cases e9 : q = i
                · subst e9; exact pk_us
                · exact (pk_un (by omega)).trans (hf1 q (by omega))) (fun j hj => (pk_un (by omega)).trans (hf2 j hj))
          refine r_aload_n g dX5_findRows_145 rfl ?_
          refine rm_get g hM fX5_71 rfl dX5_findRows_146 ?_
          refine r_iload g dX5_findRows_149 rfl ?_
          refine r_lload g dX5_findRows_151 rfl ?_
          refine rm_last (j := 64 * c + S) g hM hbm rfl (show 64 * c + S < 256 by omega) dX5_findRows_153 ?_
          intro h_3 hM
          refine r_iconst (v := 0) g dX5_findRows_154 (by decide) ?_
          refine r_istore g dX5_findRows_155 rfl rfl rfl ?_
          exact loop3 p.length 0 (A1 28) _ (by rw [upA_self]; exact hM) (Nat.zero_add _) (fun q hq => absurd hq (Nat.not_lt_zero _)) (fun j hj => hF.2.1 j hj)
        cases a with
        | none =>
          refine r_aload_n g dX5_findRows_111 rfl ?_
          refine r_iload_n g dX5_findRows_112 rfl ?_
          refine r_iload_n g dX5_findRows_113 rfl ?_
          refine r_iconst (v := 0) g dX5_findRows_114 (by decide) ?_
          refine r_pV g kX5_135 (ok_m_sumOf0 _ _ _ _ s hA hP1 hc (p := p) (by omega) (fun q hq => ⟨hord q hq, hpg _ (mem_getD hq)⟩) hM.1) hM.1.1 rfl rfl rfl hnx hR (by decide) (Nat.zero_le _) (Nat.zero_le _) rfl rfl dX5_findRows_115 ?_
          refine r_lstore g dX5_findRows_118 rfl rfl rfl ?_
          refine r_aload_n g dX5_findRows_120 rfl ?_
          refine rm_get g hM fX5_71 rfl dX5_findRows_121 ?_
          refine r_iload g dX5_findRows_124 rfl ?_
          refine rm_lald (j := 64 * c + S) g hM rfl (show 64 * c + S < 256 by omega) dX5_findRows_126 ?_
          refine r_topl (y := (-1)) hRp ?_
          refine r_lconst (v := 0) g dX5_findRows_127 (by decide) ?_
          refine r_lcmp g dX5_findRows_128 ?_
          refine r_if_lt 145 g dX5_findRows_129 (by decide) (fun c129 => ?_) (fun c129 => absurd (show lg_cmp (-1) 0 < 0 by decide) c129)
          exact take h hM hbr
        | some b =>
          rw [bst_s] at hbr
          refine r_aload_n g dX5_findRows_111 rfl ?_
          refine r_iload_n g dX5_findRows_112 rfl ?_
          refine r_iload_n g dX5_findRows_113 rfl ?_
          refine r_iconst (v := 0) g dX5_findRows_114 (by decide) ?_
          refine r_pV g kX5_135 (ok_m_sumOf0 _ _ _ _ s hA hP1 hc (p := p) (by omega) (fun q hq => ⟨hord q hq, hpg _ (mem_getD hq)⟩) hM.1) hM.1.1 rfl rfl rfl hnx hR (by decide) (Nat.zero_le _) (Nat.zero_le _) rfl rfl dX5_findRows_115 ?_
          refine r_lstore g dX5_findRows_118 rfl rfl rfl ?_
          refine r_aload_n g dX5_findRows_120 rfl ?_
          refine rm_get g hM fX5_71 rfl dX5_findRows_121 ?_
          refine r_iload g dX5_findRows_124 rfl ?_
          refine rm_lald (j := 64 * c + S) g hM rfl (show 64 * c + S < 256 by omega) dX5_findRows_126 ?_
          refine r_topl (y := (lN b.1)) hRp.1 ?_
          refine r_lconst (v := 0) g dX5_findRows_127 (by decide) ?_
          refine r_lcmp g dX5_findRows_128 ?_
          refine r_if_lt 145 g dX5_findRows_129 (by decide) (fun c129 => absurd ((pk_lLE (a := 0) (by omega) (by have := hRp.2.1; omega)).mpr (Nat.zero_le _)) (lc_lt.mp c129)) (fun c129 => ?_)
          refine r_lload g dX5_findRows_132 rfl ?_
          refine r_aload_n g dX5_findRows_134 rfl ?_
          refine rm_get g hM fX5_71 rfl dX5_findRows_135 ?_
          refine r_iload g dX5_findRows_138 rfl ?_
          refine rm_lald (j := 64 * c + S) g hM rfl (show 64 * c + S < 256 by omega) dX5_findRows_140 ?_
          refine r_topl (y := (lN b.1)) hRp.1 ?_
          refine r_lcmp g dX5_findRows_141 ?_
          refine r_if_ge 189 g dX5_findRows_142 (by decide) (fun c142 => ?_) (fun c142 => ?_)
          · skip
            have q : ¬ gcost s c p < b.1 := fun z => absurd ((lg_cmp_ge _ _).mp c142) (by rw [pk_lLE (by have := hRp.2.1; omega) (by omega)]; omega)
            rw [if_neg q] at hbr
            refine r_le (ls2 := [some (.ref m), some (.int (nI c)), some (.int (nI S)), some (.int (nI p.length)), some (.int (fI ff)), some (.int (nI (64 * c + S))), some (.int 1), none, none, none]) ⟨rfl, rfl, rfl, rfl, rfl, rfl, rfl, trivial⟩ ?_
            exact turn (some b) A1 B1 h [] hM hF hRp hord hbr
          · skip
            have q : gcost s c p < b.1 := Nat.lt_of_not_le (fun z => c142 ((lg_cmp_ge _ _).mpr ((pk_lLE (by have := hRp.2.1; omega) (by omega)).mpr z)))
            rw [if_pos q] at hbr
            exact take h hM hbr
      rcases hff with hff | ⟨hff, hn6⟩
      · subst hff
        refine r_le (ls2 := [some (.ref m), some (.int (nI c)), some (.int (nI S)), some (.int (nI p.length)), some (.int (-1)), some (.int (nI (64 * c + S))), some (.int 1), none, none, none]) ⟨rfl, rfl, rfl, rfl, rfl, rfl, rfl, trivial⟩ ?_
        refine r_iload g dX5_findRows_90 rfl ?_
        refine r_if_eq 199 g dX5_findRows_92 (by decide) (fun c92 => absurd c92 (by decide)) (fun c92 => ?_)
        refine r_iload g dX5_findRows_95 rfl ?_
        refine r_if_lt 111 g dX5_findRows_97 (by decide) (fun c97 => ?_) (fun c97 => absurd (show (-1 : Int32) < 0 by decide) c97)
        exact good rfl
      · skip
        have hfe : fI ff = nI ff := if_neg (by omega)
        have hp0 := hpg _ (mem_getD (p := p) (i := 0) (by omega))
        rw [hfe] at good bad ⊢
        refine r_iload g dX5_findRows_90 rfl ?_
        refine r_if_eq 199 g dX5_findRows_92 (by decide) (fun c92 => absurd c92 (by decide)) (fun c92 => ?_)
        refine r_iload g dX5_findRows_95 rfl ?_
        refine r_if_lt 111 g dX5_findRows_97 (by decide) (fun c97 => absurd c97 (nI_pos (by omega))) (fun c97 => ?_)
        refine r_aload_n g dX5_findRows_100 rfl ?_
        refine rm_get g hM fX5_78 rfl dX5_findRows_101 ?_
        refine r_iconst (v := 0) g dX5_findRows_104 (by decide) ?_
        refine rm_iald 29 (j := 0) g hM rfl (by decide) rfl rfl (show 0 < 6 by omega) dX5_findRows_105 ?_
        refine r_topi (y := (nI (p.getD 0 0))) (hord 0 (by omega)) ?_
        refine r_iload g dX5_findRows_106 rfl ?_
        refine r_icmp_ne 189 g dX5_findRows_108 (by decide) (fun c108 => ?_) (fun c108 => ?_)
        · skip
          have q : ¬ p.getD 0 0 = ff := fun z => c108 (by rw [z])
          exact bad (by unfold okF; rw [decide_eq_false q, decide_eq_false (by omega)]; rfl)
        · skip
          have q := (nI_c (by omega) (by omega)).mp c108
          exact good (by unfold okF; rw [decide_eq_true q, Bool.or_true])
    | cons q9 rest ih =>
      intro p a A1 B1 h hM hF hRp hch hl hord hbr hff hn66
      have hpl := (hl p List.mem_cons_self).1
      have hpg := (hl p List.mem_cons_self).2
      have hP1 : P1 F A1 s := hP.congr (fun kf hk => hF.1 kf (by omega) (by omega))
      have hcz := gcost_lt hA hc (by omega) hpg
      have turn : ∀ (a2 : Option (Nat × List Nat)) (A2 : Nat → Nat → Int32) (B2 : Nat → Int64) (h : Hp) (z9 : List (Option Value)), MS h0 h m F A2 B2 → FrR A B A2 B2 (64 * c + S) → Rp A2 B2 (64 * c + S) a2 → (∀ q, q < p.length → A2 29 q = nI (p.getD q 0)) → brs (gcost s c) (okF ff) (q9 :: rest) a2 = gbest s c S → Sf k 0 0 h nx 189 [some (.ref m), some (.int (nI c)), some (.int (nI S)), some (.int (nI p.length)), some (.int (fI ff)), some (.int (nI (64 * c + S))), some (.int 1), none, none, none] [] := by
        intro a2 A2 B2 h _ hM hF hRp hord hbr
        refine r_aload_n g dX5_findRows_189 rfl ?_
        refine r_iload_n g dX5_findRows_190 rfl ?_
        refine r_callV g kX5_139 (ok_m_nextOrder _ _ _ _ hM.1 hbm (n := p.length) (o := fun i => p.getD i 0) (by omega) (fun q hq => ⟨hord q hq, by have := hpg _ (mem_getD hq); show p.getD q 0 < 2 ^ 31; omega⟩)) hM.1.1 rfl rfl rfl hnx hR (by decide) (Nat.zero_le _) (Nat.zero_le _) rfl rfl dX5_findRows_191 ?_
        rintro v9 h_4 nx9 ⟨rfl, f9, hM9, hv9⟩ -
        have hM := hM.then hM9
        have hch2 : decide (nxtL p = some q9) = true ∧ chainB (q9 :: rest) = true := by rw [← Bool.and_eq_true]; exact hch
        obtain ⟨o9, ho9, hq9⟩ := nxtL_some (of_decide_eq_true hch2.1)
        rw [ho9] at hv9
        obtain ⟨rfl, hf9⟩ := hv9
        refine r_istore g dX5_findRows_194 rfl rfl rfl ?_
        refine r_goto 90 g dX5_findRows_196 (by decide) ?_
        have hlq := hl q9 (List.mem_cons_of_mem _ List.mem_cons_self)
        rw [show p.length = q9.length by rw [hpl, hlq.1]]
        exact ih q9 a2 _ B2 _ hM ⟨fun kf h1 h2 => (upA_ne h2).trans (hF.1 kf h1 h2), hF.2⟩ hRp hch2.2 (fun q hq => hl q (List.mem_cons_of_mem _ hq)) (fun q hq => (hf9 q (by rw [hpl, ← hlq.1]; exact hq)).trans (congrArg nI (hq9 q (by rw [hpl, ← hlq.1]; exact hq)).symm)) hbr hff hn66
      rw [brs_cons] at hbr
      have bad : okF ff p = false → Sf k 0 0 h nx 189 [some (.ref m), some (.int (nI c)), some (.int (nI S)), some (.int (nI p.length)), some (.int (fI ff)), some (.int (nI (64 * c + S))), some (.int 1), none, none, none] [] := by
        intro hok
        rw [if_neg (by rw [hok]; decide)] at hbr
        exact turn a A1 B1 h [] hM hF hRp hord hbr
      have good : okF ff p = true → Sf k 0 0 h nx 111 [some (.ref m), some (.int (nI c)), some (.int (nI S)), some (.int (nI p.length)), some (.int (fI ff)), some (.int (nI (64 * c + S))), some (.int 1), none, none, none] [] := by
        intro hok
        rw [if_pos hok] at hbr
        have take : ∀ (h : Hp), MS h0 h m F A1 B1 → brs (gcost s c) (okF ff) (q9 :: rest) (some (gcost s c p, p)) = gbest s c S → Sf k 0 0 h nx 145 [some (.ref m), some (.int (nI c)), some (.int (nI S)), some (.int (nI p.length)), some (.int (fI ff)), some (.int (nI (64 * c + S))), some (.int 1), some (.long (lN (gcost s c p))), none, none] [] := by
          intro h hM hbr
          have loop3 : ∀ e i (f : Nat → Int32) (h : Hp), MS h0 h m F (upA A1 28 f) (vp_updL B1 (64 * c + S) (lN (gcost s c p))) → i + e = p.length → (∀ q, q < i → f (6 * (64 * c + S) + q) = nI (p.getD q 0)) → (∀ j, (j < 6 * (64 * c + S) ∨ 6 * (64 * c + S) + 6 ≤ j) → f j = A 28 j) → Sf k 0 0 h nx 157 [some (.ref m), some (.int (nI c)), some (.int (nI S)), some (.int (nI p.length)), some (.int (fI ff)), some (.int (nI (64 * c + S))), some (.int 1), some (.long (lN (gcost s c p))), none, some (.int (nI i))] [] := by
            intro e
            induction e with
            | zero =>
              intro i f h hM hi hf1 hf2
              refine r_iload g dX5_findRows_157 rfl ?_
              refine r_iload_n g dX5_findRows_159 rfl ?_
              refine r_icmp_ge 189 g dX5_findRows_160 (by decide) (fun c160 => ?_) (fun c160 => absurd (nI_le (by omega) (by omega)) c160)
              refine r_le (ls2 := [some (.ref m), some (.int (nI c)), some (.int (nI S)), some (.int (nI p.length)), some (.int (fI ff)), some (.int (nI (64 * c + S))), some (.int 1), none, none, none]) ⟨rfl, rfl, rfl, rfl, rfl, rfl, rfl, trivial⟩ ?_
              exact turn (some (gcost s c p, p)) _ _ h [] hM ⟨fun kf h1 h2 => (upA_ne h1).trans (hF.1 kf h1 h2), hf2, fun j hj => (pk_uLn hj).trans (hF.2.2 j hj)⟩ ⟨pk_uLs, by show gcost s c p < 2 ^ 62; omega, fun i2 hi2 => hf1 i2 (by have hi3 : i2 < p.length := hi2; omega)⟩ hord hbr
            | succ e ih3 =>
              intro i f h hM hi hf1 hf2
              refine r_iload g dX5_findRows_157 rfl ?_
              refine r_iload_n g dX5_findRows_159 rfl ?_
              refine r_icmp_ge 189 g dX5_findRows_160 (by decide) (fun c160 => absurd c160 (nI_ge (by omega) (by omega))) (fun c160 => ?_)
              refine r_aload_n g dX5_findRows_163 rfl ?_
              refine rm_get g hM fX5_75 rfl dX5_findRows_164 ?_
              refine r_bipush (v := 6) g dX5_findRows_167 (by decide) ?_
              refine r_iload g dX5_findRows_169 rfl ?_
              refine r_imul g dX5_findRows_171 ?_
              refine r_topi (y := (nI (6 * (64 * c + S)))) (pk_mul 6 (64 * c + S)) ?_
              refine r_iload g dX5_findRows_172 rfl ?_
              refine r_iadd g dX5_findRows_174 ?_
              refine r_topi (y := (nI ((6 * (64 * c + S)) + i))) (nI_add (6 * (64 * c + S)) i) ?_
              refine r_aload_n g dX5_findRows_175 rfl ?_
              refine rm_get g hM fX5_78 rfl dX5_findRows_176 ?_
              refine r_iload g dX5_findRows_179 rfl ?_
              refine rm_iald 29 (j := i) g hM rfl (by decide) rfl rfl (show i < 6 by omega) dX5_findRows_181 ?_
              refine r_topi (y := (nI (p.getD i 0))) (hord i (by omega)) ?_
              refine rm_iast 28 (j := (6 * (64 * c + S)) + i) g hM hbm rfl (by decide) rfl rfl (show 6 * (64 * c + S) + i < 1536 by omega) dX5_findRows_182 ?_
              intro h_5 hM
              refine r_iinc (v := (nI (i + 1))) g dX5_findRows_183 rfl (nI_add i 1) rfl rfl ?_
              refine r_goto 157 g dX5_findRows_186 (by decide) ?_
              simp only [upA_upA, upA_eq] at hM
              exact ih3 (i + 1) _ _ hM (by omega) (fun q hq => by
                by_cases e9 : q = i
                · subst e9; exact pk_us
                · exact (pk_un (by omega)).trans (hf1 q (by omega))) (fun j hj => (pk_un (by omega)).trans (hf2 j hj))
          refine r_aload_n g dX5_findRows_145 rfl ?_
          refine rm_get g hM fX5_71 rfl dX5_findRows_146 ?_
          refine r_iload g dX5_findRows_149 rfl ?_
          refine r_lload g dX5_findRows_151 rfl ?_
          refine rm_last (j := 64 * c + S) g hM hbm rfl (show 64 * c + S < 256 by omega) dX5_findRows_153 ?_
          intro h_6 hM
          refine r_iconst (v := 0) g dX5_findRows_154 (by decide) ?_
          refine r_istore g dX5_findRows_155 rfl rfl rfl ?_
          exact loop3 p.length 0 (A1 28) _ (by rw [upA_self]; exact hM) (Nat.zero_add _) (fun q hq => absurd hq (Nat.not_lt_zero _)) (fun j hj => hF.2.1 j hj)
        cases a with
        | none =>
          refine r_aload_n g dX5_findRows_111 rfl ?_
          refine r_iload_n g dX5_findRows_112 rfl ?_
          refine r_iload_n g dX5_findRows_113 rfl ?_
          refine r_iconst (v := 0) g dX5_findRows_114 (by decide) ?_
          refine r_pV g kX5_135 (ok_m_sumOf0 _ _ _ _ s hA hP1 hc (p := p) (by omega) (fun q hq => ⟨hord q hq, hpg _ (mem_getD hq)⟩) hM.1) hM.1.1 rfl rfl rfl hnx hR (by decide) (Nat.zero_le _) (Nat.zero_le _) rfl rfl dX5_findRows_115 ?_
          refine r_lstore g dX5_findRows_118 rfl rfl rfl ?_
          refine r_aload_n g dX5_findRows_120 rfl ?_
          refine rm_get g hM fX5_71 rfl dX5_findRows_121 ?_
          refine r_iload g dX5_findRows_124 rfl ?_
          refine rm_lald (j := 64 * c + S) g hM rfl (show 64 * c + S < 256 by omega) dX5_findRows_126 ?_
          refine r_topl (y := (-1)) hRp ?_
          refine r_lconst (v := 0) g dX5_findRows_127 (by decide) ?_
          refine r_lcmp g dX5_findRows_128 ?_
          refine r_if_lt 145 g dX5_findRows_129 (by decide) (fun c129 => ?_) (fun c129 => absurd (show lg_cmp (-1) 0 < 0 by decide) c129)
          exact take h hM hbr
        | some b =>
          rw [bst_s] at hbr
          refine r_aload_n g dX5_findRows_111 rfl ?_
          refine r_iload_n g dX5_findRows_112 rfl ?_
          refine r_iload_n g dX5_findRows_113 rfl ?_
          refine r_iconst (v := 0) g dX5_findRows_114 (by decide) ?_
          refine r_pV g kX5_135 (ok_m_sumOf0 _ _ _ _ s hA hP1 hc (p := p) (by omega) (fun q hq => ⟨hord q hq, hpg _ (mem_getD hq)⟩) hM.1) hM.1.1 rfl rfl rfl hnx hR (by decide) (Nat.zero_le _) (Nat.zero_le _) rfl rfl dX5_findRows_115 ?_
          refine r_lstore g dX5_findRows_118 rfl rfl rfl ?_
          refine r_aload_n g dX5_findRows_120 rfl ?_
          refine rm_get g hM fX5_71 rfl dX5_findRows_121 ?_
          refine r_iload g dX5_findRows_124 rfl ?_
          refine rm_lald (j := 64 * c + S) g hM rfl (show 64 * c + S < 256 by omega) dX5_findRows_126 ?_
          refine r_topl (y := (lN b.1)) hRp.1 ?_
          refine r_lconst (v := 0) g dX5_findRows_127 (by decide) ?_
          refine r_lcmp g dX5_findRows_128 ?_
          refine r_if_lt 145 g dX5_findRows_129 (by decide) (fun c129 => absurd ((pk_lLE (a := 0) (by omega) (by have := hRp.2.1; omega)).mpr (Nat.zero_le _)) (lc_lt.mp c129)) (fun c129 => ?_)
          refine r_lload g dX5_findRows_132 rfl ?_
          refine r_aload_n g dX5_findRows_134 rfl ?_
          refine rm_get g hM fX5_71 rfl dX5_findRows_135 ?_
          refine r_iload g dX5_findRows_138 rfl ?_
          refine rm_lald (j := 64 * c + S) g hM rfl (show 64 * c + S < 256 by omega) dX5_findRows_140 ?_
          refine r_topl (y := (lN b.1)) hRp.1 ?_
          refine r_lcmp g dX5_findRows_141 ?_
          refine r_if_ge 189 g dX5_findRows_142 (by decide) (fun c142 => ?_) (fun c142 => ?_)
          · skip
            have q : ¬ gcost s c p < b.1 := fun z => absurd ((lg_cmp_ge _ _).mp c142) (by rw [pk_lLE (by have := hRp.2.1; omega) (by omega)]; omega)
            rw [if_neg q] at hbr
            refine r_le (ls2 := [some (.ref m), some (.int (nI c)), some (.int (nI S)), some (.int (nI p.length)), some (.int (fI ff)), some (.int (nI (64 * c + S))), some (.int 1), none, none, none]) ⟨rfl, rfl, rfl, rfl, rfl, rfl, rfl, trivial⟩ ?_
            exact turn (some b) A1 B1 h [] hM hF hRp hord hbr
          · skip
            have q : gcost s c p < b.1 := Nat.lt_of_not_le (fun z => c142 ((lg_cmp_ge _ _).mpr ((pk_lLE (by have := hRp.2.1; omega) (by omega)).mpr z)))
            rw [if_pos q] at hbr
            exact take h hM hbr
      rcases hff with hff | ⟨hff, hn6⟩
      · subst hff
        refine r_le (ls2 := [some (.ref m), some (.int (nI c)), some (.int (nI S)), some (.int (nI p.length)), some (.int (-1)), some (.int (nI (64 * c + S))), some (.int 1), none, none, none]) ⟨rfl, rfl, rfl, rfl, rfl, rfl, rfl, trivial⟩ ?_
        refine r_iload g dX5_findRows_90 rfl ?_
        refine r_if_eq 199 g dX5_findRows_92 (by decide) (fun c92 => absurd c92 (by decide)) (fun c92 => ?_)
        refine r_iload g dX5_findRows_95 rfl ?_
        refine r_if_lt 111 g dX5_findRows_97 (by decide) (fun c97 => ?_) (fun c97 => absurd (show (-1 : Int32) < 0 by decide) c97)
        exact good rfl
      · skip
        have hfe : fI ff = nI ff := if_neg (by omega)
        have hp0 := hpg _ (mem_getD (p := p) (i := 0) (by omega))
        rw [hfe] at good bad ⊢
        refine r_iload g dX5_findRows_90 rfl ?_
        refine r_if_eq 199 g dX5_findRows_92 (by decide) (fun c92 => absurd c92 (by decide)) (fun c92 => ?_)
        refine r_iload g dX5_findRows_95 rfl ?_
        refine r_if_lt 111 g dX5_findRows_97 (by decide) (fun c97 => absurd c97 (nI_pos (by omega))) (fun c97 => ?_)
        refine r_aload_n g dX5_findRows_100 rfl ?_
        refine rm_get g hM fX5_78 rfl dX5_findRows_101 ?_
        refine r_iconst (v := 0) g dX5_findRows_104 (by decide) ?_
        refine rm_iald 29 (j := 0) g hM rfl (by decide) rfl rfl (show 0 < 6 by omega) dX5_findRows_105 ?_
        refine r_topi (y := (nI (p.getD 0 0))) (hord 0 (by omega)) ?_
        refine r_iload g dX5_findRows_106 rfl ?_
        refine r_icmp_ne 189 g dX5_findRows_108 (by decide) (fun c108 => ?_) (fun c108 => ?_)
        · skip
          have q : ¬ p.getD 0 0 = ff := fun z => c108 (by rw [z])
          exact bad (by unfold okF; rw [decide_eq_false q, decide_eq_false (by omega)]; rfl)
        · skip
          have q := (nI_c (by omega) (by omega)).mp c108
          exact good (by unfold okF; rw [decide_eq_true q, Bool.or_true])
  have loop1 : ∀ e i (f : Nat → Int32) (h : Hp), MS h0 h m F (upA A 29 f) B → i + e = gn s → (∀ q, q < (elems S i).length → f q = nI ((elems S i).getD q 0)) → Sf k 0 0 h nx 8 [some (.ref m), some (.int (nI c)), some (.int (nI S)), some (.int (nI ((elems S i).length))), some (.int (fI (firstF s c S i))), some (.int (nI i)), none, none, none, none] [] := by
    intro e
    induction e with
    | zero =>
      intro i f h hM hi hf
      have hi2 : i = gn s := by omega
      refine r_iload g dX5_findRows_8 rfl ?_
      refine r_aload_n g dX5_findRows_10 rfl ?_
      refine rm_get g hM fX5_130 rfl dX5_findRows_11 ?_
      refine r_topi (y := (nI (gn s))) hP.2.1 ?_
      refine r_icmp_ge 69 g dX5_findRows_14 (by decide) (fun c14 => ?_) (fun c14 => absurd (nI_le (by omega) (by omega)) c14)
      refine r_bipush (v := 64) g dX5_findRows_69 (by decide) ?_
      refine r_iload_n g dX5_findRows_71 rfl ?_
      refine r_imul g dX5_findRows_72 ?_
      refine r_topi (y := (nI (64 * c))) (pk_mul 64 c) ?_
      refine r_iload_n g dX5_findRows_73 rfl ?_
      refine r_iadd g dX5_findRows_74 ?_
      refine r_topi (y := (nI ((64 * c) + S))) (nI_add (64 * c) S) ?_
      refine r_istore g dX5_findRows_75 rfl rfl rfl ?_
      refine r_aload_n g dX5_findRows_77 rfl ?_
      refine rm_get g hM fX5_71 rfl dX5_findRows_78 ?_
      refine r_iload g dX5_findRows_81 rfl ?_
      refine r_ldc2 g dX5_findRows_83 vX5_133 ?_
      refine rm_last (j := (64 * c) + S) g hM hbm rfl (show 64 * c + S < 256 by omega) dX5_findRows_86 ?_
      intro h_7 hM
      refine r_iconst (v := 1) g dX5_findRows_87 (by decide) ?_
      refine r_istore g dX5_findRows_88 rfl rfl rfl ?_
      subst hi2
      have hch := chain_all S (by omega)
      obtain ⟨rest, hps⟩ : ∃ rest, perms S = elems S 6 :: rest := by
        cases hq : perms S with
        | nil => rw [hq] at hch; exact absurd hch.2.1 (by simp)
        | cons a l => rw [hq] at hch; exact ⟨l, by rw [Option.some.inj hch.2.1]⟩
      have he6 : elems S (gn s) = elems S 6 := elems_6 hS hg6
      rw [hps] at hch
      rw [he6] at hf ⊢
      refine loop2 (firstF s c S (gn s)) (elems S 6).length rest (elems S 6) none _ _ _ hM ⟨fun kf h1 h2 => upA_ne h2, fun _ _ => rfl, fun j hj => pk_uLn hj⟩ pk_uLs hch.1 (fun q hq => ⟨(hch.2.2 q hq).1, fun x hx => bit_lt hS ((hch.2.2 q hq).2 x hx).2⟩) (fun q hq => hf q hq) (by unfold gbest; rw [hps]) ?_ (elems_len S 6)
      rcases firstF_at s c S (gn s) hg6 with z | z
      · exact Or.inl z
      · exact Or.inr ⟨by omega, ne_of_bit S (by omega) _ (by omega) z.2.1⟩
    | succ e ih =>
      intro i f h hM hi hf
      have hgk := gk_at (s := s) (i := i) (by omega)
      have hbe := (hA.2.2.2.2.2.1 _ hgk.1).2.2.2.2.2.1
      have hel := elems_len S i
      have hSd : S / 2 ^ i < 2 ^ 31 := Nat.lt_of_le_of_lt (Nat.div_le_self _ _) (by omega)
      refine r_iload g dX5_findRows_8 rfl ?_
      refine r_aload_n g dX5_findRows_10 rfl ?_
      refine rm_get g hM fX5_130 rfl dX5_findRows_11 ?_
      refine r_topi (y := (nI (gn s))) hP.2.1 ?_
      refine r_icmp_ge 69 g dX5_findRows_14 (by decide) (fun c14 => absurd c14 (nI_ge (by omega) (by omega))) (fun c14 => ?_)
      refine r_iload_n g dX5_findRows_17 rfl ?_
      refine r_iload g dX5_findRows_18 rfl ?_
      refine r_ishr g dX5_findRows_20 ?_
      refine r_topi (y := (nI (S / 2 ^ i))) (sh_n (by omega) (by omega)) ?_
      refine r_iconst (v := 1) g dX5_findRows_21 (by decide) ?_
      refine r_iand g dX5_findRows_22 ?_
      refine r_topi (y := (nI (S / 2 ^ i % 2))) (and_1 hSd) ?_
      refine r_iconst (v := 1) g dX5_findRows_23 (by decide) ?_
      refine r_icmp_ne 63 g dX5_findRows_24 (by decide) (fun c24 => ?_) (fun c24 => ?_)
      · skip
        have q := tb_0 (fun z => c24 (by rw [z]; rfl))
        refine r_iinc (v := (nI (i + 1))) g dX5_findRows_63 rfl (nI_add i 1) rfl rfl ?_
        refine r_goto 8 g dX5_findRows_66 (by decide) ?_
        rw [← elems_0 q, show firstF s c S i = firstF s c S (i + 1) from (if_neg (fun z => by rw [q] at z; exact absurd z.1 (by decide))).symm]
        exact ih (i + 1) f h hM (by omega) (by rw [elems_0 q]; exact hf)
      · skip
        have q := tb_1 ((nI_c (c := 1) (by omega) (by decide)).mp c24)
        refine r_aload_n g dX5_findRows_27 rfl ?_
        refine rm_get g hM fX5_78 rfl dX5_findRows_28 ?_
        refine r_iload_n g dX5_findRows_31 rfl ?_
        refine r_iload g dX5_findRows_32 rfl ?_
        refine rm_iast 29 (j := (elems S i).length) g hM hbm rfl (by decide) rfl rfl (show (elems S i).length < 6 by omega) dX5_findRows_34 ?_
        intro h_8 hM
        refine r_iinc (v := (nI ((elems S i).length + 1))) g dX5_findRows_35 rfl (nI_add ((elems S i).length) 1) rfl rfl ?_
        refine r_aload_n g dX5_findRows_38 rfl ?_
        refine rm_get g hM fX5_44 rfl dX5_findRows_39 ?_
        refine r_aload_n g dX5_findRows_42 rfl ?_
        refine rm_get g hM fX5_65 rfl dX5_findRows_43 ?_
        refine r_iload g dX5_findRows_46 rfl ?_
        refine rm_iald 25 (j := i) g hM rfl (by decide) rfl rfl (show i < 6 by omega) dX5_findRows_48 ?_
        refine r_topi (y := (nI (gk s i))) (hP.2.2 i (by omega)).1 ?_
        refine rm_iald 16 (j := gk s i) g hM rfl (by decide) rfl rfl (show gk s i < 400 by omega) dX5_findRows_49 ?_
        refine r_topi (y := (beI (s.2.2 (gk s i) 5))) (hI.2.2.2.2.2.2.1 _ hgk.1).2.2.2.2.2 ?_
        refine r_iload_n g dX5_findRows_50 rfl ?_
        refine r_icmp_ne 59 g dX5_findRows_51 (by decide) (fun c51 => ?_) (fun c51 => ?_)
        · skip
          have q2 : ¬ s.2.2 (gk s i) 5 = c := fun z => c51 ((beI_c hbe (by omega)).mpr z)
          refine r_iload g dX5_findRows_59 rfl ?_
          refine r_topi (y := (fI (firstF s c S (i + 1)))) (by first | (rw [firstF_1 ⟨q, q2⟩]; exact (if_neg (by omega)).symm) | rw [firstF_0 (fun z => q2 z.2)]) ?_
          refine r_istore g dX5_findRows_61 rfl rfl rfl ?_
          refine r_iinc (v := (nI (i + 1))) g dX5_findRows_63 rfl (nI_add i 1) rfl rfl ?_
          refine r_goto 8 g dX5_findRows_66 (by decide) ?_
          simp only [upA_upA, upA_eq] at hM
          have e1 : (elems S i).length + 1 = (elems S (i + 1)).length := by rw [elems_1 q, List.length_append]; rfl
          rw [e1]
          refine ih (i + 1) _ _ hM (by omega) (fun q9 hq9 => ?_)
          rw [elems_1 q, getD_app]
          by_cases e9 : q9 = (elems S i).length
          · rw [e9, pk_us, if_neg (Nat.lt_irrefl _), if_pos rfl]
          · rw [pk_un e9, if_pos (by omega)]; exact hf q9 (by omega)
        · skip
          have q2 := (beI_c hbe (by omega)).mp c51
          refine r_iload g dX5_findRows_54 rfl ?_
          refine r_goto 61 g dX5_findRows_56 (by decide) ?_
          refine r_topi (y := (fI (firstF s c S (i + 1)))) (by first | (rw [firstF_1 ⟨q, q2⟩]; exact (if_neg (by omega)).symm) | rw [firstF_0 (fun z => q2 z.2)]) ?_
          refine r_istore g dX5_findRows_61 rfl rfl rfl ?_
          refine r_iinc (v := (nI (i + 1))) g dX5_findRows_63 rfl (nI_add i 1) rfl rfl ?_
          refine r_goto 8 g dX5_findRows_66 (by decide) ?_
          simp only [upA_upA, upA_eq] at hM
          have e1 : (elems S i).length + 1 = (elems S (i + 1)).length := by rw [elems_1 q, List.length_append]; rfl
          rw [e1]
          refine ih (i + 1) _ _ hM (by omega) (fun q9 hq9 => ?_)
          rw [elems_1 q, getD_app]
          by_cases e9 : q9 = (elems S i).length
          · rw [e9, pk_us, if_neg (Nat.lt_irrefl _), if_pos rfl]
          · rw [pk_un e9, if_pos (by omega)]; exact hf q9 (by omega)
  refine r_iconst (v := 0) g dX5_findRows_0 (by decide) ?_
  refine r_istore_n g dX5_findRows_1 rfl rfl rfl ?_
  refine r_iconst (v := (-1)) g dX5_findRows_2 (by decide) ?_
  refine r_istore g dX5_findRows_3 rfl rfl rfl ?_
  refine r_iconst (v := 0) g dX5_findRows_5 (by decide) ?_
  refine r_istore g dX5_findRows_6 rfl rfl rfl ?_
  exact loop1 (gn s) 0 (A 29) h (by rw [upA_self]; exact hM) (Nat.zero_add _) (fun q hq => absurd hq (Nat.not_lt_zero _))
