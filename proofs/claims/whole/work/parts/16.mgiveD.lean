def accW (s : AS) (w : Nat) : Option (Nat × List Nat) := brs (gtot s) (ggood s) ((List.range w).map (dig (gn s))) none
theorem accW_succ (s : AS) (w : Nat) : accW s (w + 1) = if ggood s (dig (gn s) w) = true then bst (gtot s) (dig (gn s) w) (accW s w) else accW s w := by
  unfold accW
  rw [List.range_succ, List.map_append, brs_append]
  rfl
theorem accW_end (s : AS) : accW s (4 ^ gn s) = gway s := rfl
/-- the best way so far stands in bestWay and least -/
def RB (s : AS) (w : Nat) (bw : Int32) (lz : Nat) : Prop := (accW s w = none ∧ bw = -1) ∨ ∃ j, j < w ∧ accW s w = some (lz, dig (gn s) j) ∧ bw = nI j ∧ lz < 2 ^ 62
theorem gg_t {s : AS} {d : List Nat} {i : Nat} (h : ggoodF s d i = true) (h2 : carsN s (gk s i) / 2 ^ (d.getD i 0) % 2 = 1) : (1 : Int32) = b2 (ggoodF s d (i + 1)) := by
  unfold ggoodF; rw [h, tb_1 h2]; rfl
theorem gg_f {s : AS} {d : List Nat} {i : Nat} (h : ggoodF s d i = false ∨ ¬ carsN s (gk s i) / 2 ^ (d.getD i 0) % 2 = 1) : (0 : Int32) = b2 (ggoodF s d (i + 1)) := by
  unfold ggoodF
  rcases h with h | h
  · rw [h]; rfl
  · rw [tb_0 h, Bool.and_false]; rfl
set_option maxHeartbeats 4000000 in
set_option maxRecDepth 100000 in
theorem give_D {k : Cx} {h0 : Hp} {nx m : Nat} {s : AS} (hA : AI s) (g : Gd k miX5_give.1.cls miX5_give.2.1) (hr : RetK k (some .long) 0 0 (KG h0 nx m s)) (hR : RmK k 5 0 0) (hbm : cBase k ≤ m) (hnx : cBase k ≤ nx) {F : Nat → Int32} (hF0 : F 0 = 0) {B : Nat → Int64} : ∀ (A : Nat → Nat → Int32) (h : Hp), MS h0 h m F A B → P1 F A s → (∀ c, c < s.1 2 → ∀ S, S < 2 ^ gn s → Rp A B (64 * c + S) (gbest s c S)) → (∀ j, j < 400 → A 18 j = -1) → Sf k 0 0 h nx 146 [some (.ref m), some (.int (nI (4 ^ gn s))), none, none, none, none, none, none, none, none] [] := by
  obtain ⟨⟨hn1, hn2⟩, ht, hnc, hN, -⟩ := id hA
  have hg6 := gn_le hA
  intro A h hM hP hB h18
  have hw4 : 4 ^ gn s ≤ 4096 := Nat.pow_le_pow_right (n := 4) (by decide) hg6
  have loopD : ∀ e w (bw : Int32) (lz : Nat) (f : Nat → Int32) (h : Hp), MS h0 h m F (upA A 30 f) B → w + e = 4 ^ gn s → RB s w bw lz → Sf k 0 0 h nx 153 [some (.ref m), some (.int (nI (4 ^ gn s))), some (.int bw), some (.long (lN lz)), none, some (.int (nI w)), none, none, none, none] [] := by
    intro e
    induction e with
    | zero =>
      intro w bw lz f h hM hw hRB
      have hw2 : w = 4 ^ gn s := by omega
      rw [hw2] at hRB ⊢
      obtain ⟨gw1, -, -, -⟩ := gway_at hA
      rcases hRB with ⟨z, -⟩ | ⟨j, hj, hacc, rfl, -⟩
      · rw [accW_end, gw1] at z; cases z
      rw [accW_end, gw1] at hacc
      have hpr := Option.some.inj hacc
      have hlz : lz = gsum s := (congrArg Prod.fst hpr).symm
      have hgd : dig (gn s) j = gd s := (congrArg Prod.snd hpr).symm
      subst hlz
      refine r_iload g dX5_give_153 rfl ?_
      refine r_iload_n g dX5_give_155 rfl ?_
      refine r_icmp_ge 295 g dX5_give_156 (by decide) (fun c156 => ?_) (fun c156 => absurd (nI_le (Nat.le_refl _) (by omega)) c156)
      refine r_aload_n g dX5_give_295 rfl ?_
      refine r_iload_n g dX5_give_296 rfl ?_
      refine r_callV g kX5_149 (ok_m_deal _ _ _ _ hM.1 hbm (n := gn s) (w := j) hP.2.1 hg6 (by omega)) hM.1.1 rfl rfl rfl hnx hR (by decide) (Nat.zero_le _) (Nat.zero_le _) rfl rfl dX5_give_297 ?_
      rintro v9 h_1 nx9 ⟨rfl, rfl, f9, hM9, hf9⟩ -
      have hM := hM.then hM9
      simp only [upA_upA, upA_eq] at hM
      refine r_iconst (v := 0) g dX5_give_300 (by decide) ?_
      refine r_istore g dX5_give_301 rfl rfl rfl ?_
      refine r_le (ls2 := [some (.ref m), none, none, some (.long (lN (gsum s))), none, some (.int (nI 0)), none, none, none, none]) ⟨rfl, rfl, rfl, trivial⟩ ?_
      exact give_G hA g hr hR hbm hnx hF0 4 0 _ _ hM (by omega) (hP.congr (fun kf hk => upA_ne (by omega))) (fun c hc => (Rp_congr (upA_ne (by decide))).mpr (hB c hc _ (setO_gn s (gd s) c))) (fun i hi => by rw [upA_eq, hf9 i hi, hgd]) ⟨fun c9 h9 => absurd h9 (Nat.not_lt_zero _), fun i _ h9 => absurd h9 (Nat.not_lt_zero _), fun j9 hj9 _ => (congrFun (upA_ne (by decide)) j9).trans (h18 j9 hj9)⟩
    | succ e ih =>
      intro w bw lz f h hM hw hRB
      have hsucc := accW_succ s w
      have turn : ∀ (bw2 : Int32) (lz2 : Nat) (f : Nat → Int32) (h : Hp), MS h0 h m F (upA A 30 f) B → RB s (w + 1) bw2 lz2 → Sf k 0 0 h nx 289 [some (.ref m), some (.int (nI (4 ^ gn s))), some (.int bw2), some (.long (lN lz2)), none, some (.int (nI w)), none, none, none, none] [] := by
        intro bw2 lz2 f h hM hRB
        refine r_iinc (v := (nI (w + 1))) g dX5_give_289 rfl (nI_add w 1) rfl rfl ?_
        refine r_goto 153 g dX5_give_292 (by decide) ?_
        exact ih (w + 1) bw2 lz2 f h hM (by omega) hRB
      have fin : ∀ (f : Nat → Int32) (h : Hp), MS h0 h m F (upA A 30 f) B → ggood s (dig (gn s) w) = true → Sf k 0 0 h nx 267 [some (.ref m), some (.int (nI (4 ^ gn s))), some (.int bw), some (.long (lN lz)), none, some (.int (nI w)), some (.int 1), some (.long (lN (gtot s (dig (gn s) w)))), none, none] [] := by
        intro f h hM hgg
        rw [if_pos hgg] at hsucc
        have hgt : gtot s (dig (gn s) w) < 2 ^ 62 := by have := gtot_lt hA (dig (gn s) w) _ (Nat.le_refl _); have h9 : gtot s (dig (gn s) w) = gtotF s (dig (gn s) w) (s.1 2) := rfl; omega
        rcases hRB with ⟨hacc, rfl⟩ | ⟨j, hj, hacc, rfl, hlz⟩
        · skip
          rw [hacc, bst_n] at hsucc
          refine r_iload g dX5_give_267 rfl ?_
          refine r_if_eq 289 g dX5_give_269 (by decide) (fun c269 => absurd c269 (by decide)) (fun c269 => ?_)
          refine r_iload_n g dX5_give_272 rfl ?_
          refine r_if_lt 283 g dX5_give_273 (by decide) (fun c273 => ?_) (fun c273 => absurd c273 (by decide))
          refine r_iload g dX5_give_283 rfl ?_
          refine r_istore_n g dX5_give_285 rfl rfl rfl ?_
          refine r_lload g dX5_give_286 rfl ?_
          refine r_lstore_n g dX5_give_288 rfl rfl rfl ?_
          refine r_le (ls2 := [some (.ref m), some (.int (nI (4 ^ gn s))), some (.int (nI w)), some (.long (lN (gtot s (dig (gn s) w)))), none, some (.int (nI w)), none, none, none, none]) ⟨rfl, rfl, rfl, rfl, rfl, trivial⟩ ?_
          exact turn _ _ f h hM (Or.inr ⟨w, Nat.lt_succ_self w, hsucc, rfl, hgt⟩)
        · skip
          rw [hacc, bst_s] at hsucc
          refine r_iload g dX5_give_267 rfl ?_
          refine r_if_eq 289 g dX5_give_269 (by decide) (fun c269 => absurd c269 (by decide)) (fun c269 => ?_)
          refine r_iload_n g dX5_give_272 rfl ?_
          refine r_if_lt 283 g dX5_give_273 (by decide) (fun c273 => absurd c273 (nI_pos (by omega))) (fun c273 => ?_)
          refine r_lload g dX5_give_276 rfl ?_
          refine r_lload_n g dX5_give_278 rfl ?_
          refine r_lcmp g dX5_give_279 ?_
          refine r_if_ge 289 g dX5_give_280 (by decide) (fun c280 => ?_) (fun c280 => ?_)
          · skip
            have q : ¬ gtot s (dig (gn s) w) < lz := fun z => absurd ((lg_cmp_ge _ _).mp c280) (by rw [pk_lLE (by omega) (by omega)]; omega)
            rw [if_neg q] at hsucc
            refine r_le (ls2 := [some (.ref m), some (.int (nI (4 ^ gn s))), some (.int (nI j)), some (.long (lN lz)), none, some (.int (nI w)), none, none, none, none]) ⟨rfl, rfl, rfl, rfl, rfl, trivial⟩ ?_
            exact turn _ _ f h hM (Or.inr ⟨j, by omega, hsucc, rfl, hlz⟩)
          · skip
            have q : gtot s (dig (gn s) w) < lz := Nat.lt_of_not_le (fun z => c280 ((lg_cmp_ge _ _).mpr ((pk_lLE (by omega) (by omega)).mpr z)))
            rw [if_pos q] at hsucc
            refine r_iload g dX5_give_283 rfl ?_
            refine r_istore_n g dX5_give_285 rfl rfl rfl ?_
            refine r_lload g dX5_give_286 rfl ?_
            refine r_lstore_n g dX5_give_288 rfl rfl rfl ?_
            refine r_le (ls2 := [some (.ref m), some (.int (nI (4 ^ gn s))), some (.int (nI w)), some (.long (lN (gtot s (dig (gn s) w)))), none, some (.int (nI w)), none, none, none, none]) ⟨rfl, rfl, rfl, rfl, rfl, trivial⟩ ?_
            exact turn _ _ f h hM (Or.inr ⟨w, Nat.lt_succ_self w, hsucc, rfl, hgt⟩)
      have finb : ∀ (f : Nat → Int32) (h : Hp), MS h0 h m F (upA A 30 f) B → ggood s (dig (gn s) w) = false → Sf k 0 0 h nx 267 [some (.ref m), some (.int (nI (4 ^ gn s))), some (.int bw), some (.long (lN lz)), none, some (.int (nI w)), some (.int 0), none, none, none] [] := by
        intro f h hM hgg
        rw [if_neg (by rw [hgg]; decide)] at hsucc
        refine r_iload g dX5_give_267 rfl ?_
        refine r_if_eq 289 g dX5_give_269 (by decide) (fun c269 => ?_) (fun c269 => absurd c269 (by decide))
        refine r_le (ls2 := [some (.ref m), some (.int (nI (4 ^ gn s))), some (.int bw), some (.long (lN lz)), none, some (.int (nI w)), none, none, none, none]) ⟨rfl, rfl, rfl, rfl, rfl, trivial⟩ ?_
        exact turn bw lz f h hM (hRB.elim (fun z => Or.inl ⟨hsucc.trans z.1, z.2⟩) (fun ⟨j, h1, h2, h3⟩ => Or.inr ⟨j, by omega, hsucc.trans h2, h3⟩))
      have loopF : ∀ (f : Nat → Int32) (h : Hp), MS h0 h m F (upA A 30 f) B → (∀ q, q < gn s → f q = nI ((dig (gn s) w).getD q 0)) → ggood s (dig (gn s) w) = true → ∀ e c, c + e = s.1 2 → Sf k 0 0 h nx 225 [some (.ref m), some (.int (nI (4 ^ gn s))), some (.int bw), some (.long (lN lz)), none, some (.int (nI w)), some (.int 1), some (.long (lN (gtotF s (dig (gn s) w) c))), none, some (.int (nI c))] [] := by
        intro f h hM hf hgg e
        induction e with
        | zero =>
          intro c hc
          have hc2 : c = s.1 2 := by omega
          subst hc2
          refine r_iload g dX5_give_225 rfl ?_
          refine r_aload_n g dX5_give_227 rfl ?_
          refine rm_get g hM fX5_95 rfl dX5_give_228 ?_
          refine r_topi (y := (nI (s.1 2))) hP.1.2.2.1 ?_
          refine r_icmp_ge 267 g dX5_give_231 (by decide) (fun c231 => ?_) (fun c231 => absurd (nI_le (Nat.le_refl _) (by omega)) c231)
          refine r_le (ls2 := [some (.ref m), some (.int (nI (4 ^ gn s))), some (.int bw), some (.long (lN lz)), none, some (.int (nI w)), some (.int 1), some (.long (lN (gtot s (dig (gn s) w)))), none, none]) ⟨rfl, rfl, rfl, rfl, rfl, rfl, rfl, trivial⟩ ?_
          exact fin f h hM hgg
        | succ e ihF =>
          intro c hc
          have hso := setO_gn s (dig (gn s) w) c
          have hso64 : setO (dig (gn s) w) c (gn s) < 64 := Nat.lt_of_lt_of_le hso (Nat.pow_le_pow_right (n := 2) (by decide) hg6)
          have hb9 := hB c (by omega) _ hso
          rw [(gbest_at hA (by omega) hso).1] at hb9
          refine r_iload g dX5_give_225 rfl ?_
          refine r_aload_n g dX5_give_227 rfl ?_
          refine rm_get g hM fX5_95 rfl dX5_give_228 ?_
          refine r_topi (y := (nI (s.1 2))) hP.1.2.2.1 ?_
          refine r_icmp_ge 267 g dX5_give_231 (by decide) (fun c231 => absurd c231 (nI_ge (by omega) (by omega))) (fun c231 => ?_)
          refine r_iload g dX5_give_234 rfl ?_
          refine r_if_eq 267 g dX5_give_236 (by decide) (fun c236 => absurd c236 (by decide)) (fun c236 => ?_)
          refine r_lload g dX5_give_239 rfl ?_
          refine r_aload_n g dX5_give_241 rfl ?_
          refine rm_get g hM fX5_71 rfl dX5_give_242 ?_
          refine r_bipush (v := 64) g dX5_give_245 (by decide) ?_
          refine r_iload g dX5_give_247 rfl ?_
          refine r_imul g dX5_give_249 ?_
          refine r_topi (y := (nI (64 * c))) (pk_mul 64 c) ?_
          refine r_aload_n g dX5_give_250 rfl ?_
          refine r_iload g dX5_give_251 rfl ?_
          refine r_pV g kX5_153 (ok_m_setOf _ _ _ _ hM.1 (n := gn s) (c := c) (d := dig (gn s) w) hP.2.1 hg6 (by omega) (fun i hi => ⟨hf i hi, dig_lt hi⟩)) hM.1.1 rfl rfl rfl hnx hR (by decide) (Nat.zero_le _) (Nat.zero_le _) rfl rfl dX5_give_253 ?_
          refine r_iadd g dX5_give_256 ?_
          refine r_topi (y := (nI ((64 * c) + (setO (dig (gn s) w) c (gn s))))) (nI_add (64 * c) (setO (dig (gn s) w) c (gn s))) ?_
          refine rm_lald (j := (64 * c) + (setO (dig (gn s) w) c (gn s))) g hM rfl (show 64 * c + setO (dig (gn s) w) c (gn s) < 256 by omega) dX5_give_257 ?_
          refine r_topl (y := (lN (gcst s c (setO (dig (gn s) w) c (gn s))))) hb9.1 ?_
          refine r_ladd g dX5_give_258 ?_
          refine r_topl (y := (lN (gtotF s (dig (gn s) w) (c + 1)))) (lN_add _ _) ?_
          refine r_lstore g dX5_give_259 rfl rfl rfl ?_
          refine r_iinc (v := (nI (c + 1))) g dX5_give_261 rfl (nI_add c 1) rfl rfl ?_
          refine r_goto 225 g dX5_give_264 (by decide) ?_
          exact ihF (c + 1) (by omega)
      have loopE : ∀ (f : Nat → Int32) (h : Hp), MS h0 h m F (upA A 30 f) B → (∀ q, q < gn s → f q = nI ((dig (gn s) w).getD q 0)) → ∀ e i, i + e = gn s → Sf k 0 0 h nx 171 [some (.ref m), some (.int (nI (4 ^ gn s))), some (.int bw), some (.long (lN lz)), none, some (.int (nI w)), some (.int (b2 (ggoodF s (dig (gn s) w) i))), some (.int (nI i)), none, none] [] := by
        intro f h hM hf e
        induction e with
        | zero =>
          intro i hi
          have hi2 : i = gn s := by omega
          subst hi2
          cases hgg : ggood s (dig (gn s) w) with
          | false =>
            have hb2 : b2 (ggoodF s (dig (gn s) w) (gn s)) = 0 := by have h9 : ggoodF s (dig (gn s) w) (gn s) = false := hgg; rw [h9]; rfl
            rw [hb2]
            refine r_iload g dX5_give_171 rfl ?_
            refine r_aload_n g dX5_give_173 rfl ?_
            refine rm_get g hM fX5_130 rfl dX5_give_174 ?_
            refine r_topi (y := (nI (gn s))) hP.2.1 ?_
            refine r_icmp_ge 219 g dX5_give_177 (by decide) (fun c177 => ?_) (fun c177 => absurd (nI_le (Nat.le_refl _) (by omega)) c177)
            refine r_lconst (v := 0) g dX5_give_219 (by decide) ?_
            refine r_topl (y := lN 0) rfl ?_
            refine r_lstore g dX5_give_220 rfl rfl rfl ?_
            refine r_iconst (v := 0) g dX5_give_222 (by decide) ?_
            refine r_istore g dX5_give_223 rfl rfl rfl ?_
            refine r_iload g dX5_give_225 rfl ?_
            refine r_aload_n g dX5_give_227 rfl ?_
            refine rm_get g hM fX5_95 rfl dX5_give_228 ?_
            refine r_topi (y := (nI (s.1 2))) hP.1.2.2.1 ?_
            refine r_icmp_ge 267 g dX5_give_231 (by decide) (fun c231 => ?_) (fun c231 => ?_)
            · skip
              refine r_le (ls2 := [some (.ref m), some (.int (nI (4 ^ gn s))), some (.int bw), some (.long (lN lz)), none, some (.int (nI w)), some (.int 0), none, none, none]) ⟨rfl, rfl, rfl, rfl, rfl, rfl, trivial⟩ ?_
              exact finb f h hM hgg
            · skip
              refine r_iload g dX5_give_234 rfl ?_
              refine r_if_eq 267 g dX5_give_236 (by decide) (fun c236 => ?_) (fun c236 => absurd c236 (by decide))
              refine r_le (ls2 := [some (.ref m), some (.int (nI (4 ^ gn s))), some (.int bw), some (.long (lN lz)), none, some (.int (nI w)), some (.int 0), none, none, none]) ⟨rfl, rfl, rfl, rfl, rfl, rfl, trivial⟩ ?_
              exact finb f h hM hgg
          | true =>
            have hb2 : b2 (ggoodF s (dig (gn s) w) (gn s)) = 1 := by have h9 : ggoodF s (dig (gn s) w) (gn s) = true := hgg; rw [h9]; rfl
            rw [hb2]
            refine r_iload g dX5_give_171 rfl ?_
            refine r_aload_n g dX5_give_173 rfl ?_
            refine rm_get g hM fX5_130 rfl dX5_give_174 ?_
            refine r_topi (y := (nI (gn s))) hP.2.1 ?_
            refine r_icmp_ge 219 g dX5_give_177 (by decide) (fun c177 => ?_) (fun c177 => absurd (nI_le (Nat.le_refl _) (by omega)) c177)
            refine r_lconst (v := 0) g dX5_give_219 (by decide) ?_
            refine r_topl (y := lN 0) rfl ?_
            refine r_lstore g dX5_give_220 rfl rfl rfl ?_
            refine r_iconst (v := 0) g dX5_give_222 (by decide) ?_
            refine r_istore g dX5_give_223 rfl rfl rfl ?_
            exact loopF f h hM hf hgg (s.1 2) 0 (Nat.zero_add _)
        | succ e ihE =>
          intro i hi
          have hgk := gk_at (s := s) (i := i) (by omega)
          have hcl := carsN_lt hA (gk s i)
          have hdl := dig_lt (n := gn s) (w := w) (i := i) (by omega)
          have hsd : carsN s (gk s i) / 2 ^ ((dig (gn s) w).getD i 0) < 2 ^ 31 := Nat.lt_of_le_of_lt (Nat.div_le_self _ _) (by omega)
          refine r_iload g dX5_give_171 rfl ?_
          refine r_aload_n g dX5_give_173 rfl ?_
          refine rm_get g hM fX5_130 rfl dX5_give_174 ?_
          refine r_topi (y := (nI (gn s))) hP.2.1 ?_
          refine r_icmp_ge 219 g dX5_give_177 (by decide) (fun c177 => absurd c177 (nI_ge (by omega) (by omega))) (fun c177 => ?_)
          refine r_iload g dX5_give_180 rfl ?_
          refine r_if_eq 210 g dX5_give_182 (by decide) (fun c182 => ?_) (fun c182 => ?_)
          · skip
            have q := b2_f c182
            refine r_iconst (v := 0) g dX5_give_210 (by decide) ?_
            refine r_topi (y := (b2 (ggoodF s (dig (gn s) w) (i + 1)))) (by first | exact gg_f (Or.inl q) | exact gg_f (Or.inr q2)) ?_
            refine r_istore g dX5_give_211 rfl rfl rfl ?_
            refine r_iinc (v := (nI (i + 1))) g dX5_give_213 rfl (nI_add i 1) rfl rfl ?_
            refine r_goto 171 g dX5_give_216 (by decide) ?_
            exact ihE (i + 1) (by omega)
          · skip
            have q := b2_t c182
            refine r_aload_n g dX5_give_185 rfl ?_
            refine rm_get g hM fX5_68 rfl dX5_give_186 ?_
            refine r_iload g dX5_give_189 rfl ?_
            refine rm_iald 26 (j := i) g hM rfl (by decide) rfl rfl (show i < 6 by omega) dX5_give_191 ?_
            refine r_topi (y := (nI (carsN s (gk s i)))) ((hP.2.2 i (by omega)).2) ?_
            refine r_aload_n g dX5_give_192 rfl ?_
            refine rm_get g hM fX5_81 rfl dX5_give_193 ?_
            refine r_iload g dX5_give_196 rfl ?_
            refine rm_iald 30 (j := i) g hM rfl (by decide) rfl rfl (show i < 6 by omega) dX5_give_198 ?_
            refine r_topi (y := (nI ((dig (gn s) w).getD i 0))) (hf i (by omega)) ?_
            refine r_ishr g dX5_give_199 ?_
            refine r_topi (y := (nI (carsN s (gk s i) / 2 ^ ((dig (gn s) w).getD i 0)))) (sh_n (by omega) (by omega)) ?_
            refine r_iconst (v := 1) g dX5_give_200 (by decide) ?_
            refine r_iand g dX5_give_201 ?_
            refine r_topi (y := (nI (carsN s (gk s i) / 2 ^ ((dig (gn s) w).getD i 0) % 2))) (and_1 hsd) ?_
            refine r_iconst (v := 1) g dX5_give_202 (by decide) ?_
            refine r_icmp_ne 210 g dX5_give_203 (by decide) (fun c203 => ?_) (fun c203 => ?_)
            · skip
              have q2 : ¬ carsN s (gk s i) / 2 ^ ((dig (gn s) w).getD i 0) % 2 = 1 := fun z => c203 (by rw [z]; rfl)
              refine r_iconst (v := 0) g dX5_give_210 (by decide) ?_
              refine r_topi (y := (b2 (ggoodF s (dig (gn s) w) (i + 1)))) (by first | exact gg_f (Or.inl q) | exact gg_f (Or.inr q2)) ?_
              refine r_istore g dX5_give_211 rfl rfl rfl ?_
              refine r_iinc (v := (nI (i + 1))) g dX5_give_213 rfl (nI_add i 1) rfl rfl ?_
              refine r_goto 171 g dX5_give_216 (by decide) ?_
              exact ihE (i + 1) (by omega)
            · skip
              have q2 := (nI_c (c := 1) (by omega) (by decide)).mp c203
              refine r_iconst (v := 1) g dX5_give_206 (by decide) ?_
              refine r_topi (y := (b2 (ggoodF s (dig (gn s) w) (i + 1)))) (gg_t q q2) ?_
              refine r_goto 211 g dX5_give_207 (by decide) ?_
              refine r_istore g dX5_give_211 rfl rfl rfl ?_
              refine r_iinc (v := (nI (i + 1))) g dX5_give_213 rfl (nI_add i 1) rfl rfl ?_
              refine r_goto 171 g dX5_give_216 (by decide) ?_
              exact ihE (i + 1) (by omega)
      refine r_iload g dX5_give_153 rfl ?_
      refine r_iload_n g dX5_give_155 rfl ?_
      refine r_icmp_ge 295 g dX5_give_156 (by decide) (fun c156 => absurd c156 (nI_ge (by omega) (by omega))) (fun c156 => ?_)
      refine r_aload_n g dX5_give_159 rfl ?_
      refine r_iload g dX5_give_160 rfl ?_
      refine r_callV g kX5_149 (ok_m_deal _ _ _ _ hM.1 hbm (n := gn s) (w := w) hP.2.1 hg6 (by omega)) hM.1.1 rfl rfl rfl hnx hR (by decide) (Nat.zero_le _) (Nat.zero_le _) rfl rfl dX5_give_162 ?_
      rintro v9 h_2 nx9 ⟨rfl, rfl, f9, hM9, hf9⟩ -
      have hM := hM.then hM9
      simp only [upA_upA, upA_eq] at hM
      refine r_iconst (v := 1) g dX5_give_165 (by decide) ?_
      refine r_istore g dX5_give_166 rfl rfl rfl ?_
      refine r_iconst (v := 0) g dX5_give_168 (by decide) ?_
      refine r_istore g dX5_give_169 rfl rfl rfl ?_
      exact loopE f9 _ hM hf9 (gn s) 0 (Nat.zero_add _)
  refine r_iconst (v := (-1)) g dX5_give_146 (by decide) ?_
  refine r_istore_n g dX5_give_147 rfl rfl rfl ?_
  refine r_lconst (v := 0) g dX5_give_148 (by decide) ?_
  refine r_topl (y := lN 0) rfl ?_
  refine r_lstore_n g dX5_give_149 rfl rfl rfl ?_
  refine r_iconst (v := 0) g dX5_give_150 (by decide) ?_
  refine r_istore g dX5_give_151 rfl rfl rfl ?_
  exact loopD (4 ^ gn s) 0 (-1) 0 (A 30) h (by rw [upA_self]; exact hM) (Nat.zero_add _) (Or.inl ⟨rfl, rfl⟩)
