/-! 42: the law's turns, one call each -/
theorem le2_Car (s : AS) (f p : Int32) : (sCar s f p).1 ≤ 2 := by
  unfold sCar
  split
  · simp
  · split <;> simp
theorem le2_Call (s : AS) (f p : Int32) : (sCall s f p).1 ≤ 2 := by
  unfold sCall
  split
  · simp
  · split <;> simp
theorem le2_Sleep (s : AS) (c : Int32) (on : Bool) : (sSleep s c on).1 ≤ 2 := by unfold sSleep; split <;> simp
theorem le2_Urgent (s : AS) (c : Int32) (on : Bool) : (sUrgent s c on).1 ≤ 2 := by unfold sUrgent; split <;> simp
theorem le2_Begin (s : AS) (y c : Int32) : (sBegin s y c).1 ≤ 2 := by
  unfold sBegin
  split
  · simp
  · split
    · simp
    · split <;> simp
theorem le2_Pass (s : AS) (z : Int32) : (sPass s z).1 ≤ 2 := by
  unfold sPass
  split
  · simp
  · split <;> simp
theorem le2_CarOf (s : AS) (r : GR) (y : Int32) : (sCarOf s r y).1 ≤ 2 := by unfold sCarOf; split <;> simp
theorem le2_Turn (s : AS) (r : GR) (c y : Int32) : (sTurn s r c y).1 ≤ 2 := by unfold sTurn; split <;> simp
theorem le2_Told (s : AS) (r : GR) (y w : Int32) : (sTold s r y w).1 ≤ 2 := by unfold sTold; split <;> simp
theorem le2_Cars (s : AS) (n : Int32) : (sCars s n).1 ≤ 2 := by unfold sCars; split <;> simp
theorem le2_Weight (s : AS) (n : Int32) : (sWeight s n).1 ≤ 2 := by unfold sWeight; split <;> simp
theorem MO.fr {h h' : Hp} {m : Nat} {F : Nat → Int32} {A : Nat → Nat → Int32} {B : Nat → Int64} (x : MO h m F A B) (f : ∀ q, m ≤ q → q < m + 25 → h' q = h q) : MO h' m F A B :=
  ⟨(f m (Nat.le_refl _) (by omega)).trans x.1, fun kf hk => (f _ (by omega) (by have := moff_rng hk; omega)).trans (x.2 kf hk)⟩
/-- between two turns: class, reference and out cell -/
def LI (h : Hp) (nx x : Nat) (s : AS) (r : GR) : Prop := AI s ∧ CI h x (x + 43) nx s r ∧ RN s r ∧ (∃ F A B, MO h (x + 17) F A B ∧ MI F A s ∧ MG A r) ∧ ∃ f, h (x + 42) = some (eJ 1 f)

set_option maxHeartbeats 4000000 in
set_option maxRecDepth 100000 in
theorem law_car {k : Cx} {b L : Nat} {xs : Nat → Int32} (g : Gd k RL cL_law) (hx : XS k b L xs) (hL : L ≤ 2049) (hR : RmK k 2000 601024 7293000) (hl : (cL k).stackTraces = false) {x i c0 s0 : Nat} (hbx : cBase k ≤ x) (hc0 : c0 ≤ 3000) (hs0 : s0 ≤ 600000) (hi : i + 3 < L) {s : AS} {r : GR} {h : Hp} {nx : Nat} (hnx : cBase k ≤ nx) (hLI : LI h nx x s r) (hback : ∀ (s : AS) (r : GR) (h : Hp) (nx c s9 : Nat), LI h nx x s r → cBase k ≤ nx → c ≤ c0 + 4 → s9 ≤ s0 + 909 → Sf k c s9 h nx 1081 [some (.ref b), some (.ref x), some (.ref (x + 17)), some (.ref (x + 42)), some (.int (nI i)), none, none] []) : Sf k c0 s0 h nx 132 [some (.ref b), some (.ref x), some (.ref (x + 17)), some (.ref (x + 42)), some (.int (nI i)), none, none] [] := by
  obtain ⟨hA, hC, hRN, ⟨F, A, B, hM, hI, hMG⟩, f9, ho⟩ := hLI
  have hln := hC.obj.2.2
  refine r_aload_n g dL_law_132 rfl ?_
  refine r_aload_n g dL_law_133 rfl ?_
  refine r_iload g dL_law_134 rfl ?_
  refine r_iconst (v := 1) g dL_law_136 (by decide) ?_
  refine r_iadd g dL_law_137 ?_
  refine r_topi (y := (nI (i + 1))) (nI_add i 1) ?_
  refine r_sld (j := i + 1) g hx rfl (by omega) (by omega) dL_law_138 ?_
  refine r_aload_n g dL_law_139 rfl ?_
  refine r_iload g dL_law_140 rfl ?_
  refine r_iconst (v := 2) g dL_law_142 (by decide) ?_
  refine r_iadd g dL_law_143 ?_
  refine r_topi (y := (nI (i + 2))) (nI_add i 2) ?_
  refine r_sld (j := i + 2) g hx rfl (by omega) (by omega) dL_law_144 ?_
  refine r_aload_n g dL_law_145 rfl ?_
  refine r_callC g kcL_72 (ok_l_car _ _ _ _ hl (r := r) hA hC hbx ho (by omega) (by omega) (xs (i + 1)) (xs (i + 2))) rfl rfl hnx hR (by decide) (by omega) (by omega) rfl rfl dL_law_146 ?_
  rintro v9 h1 nx1 ⟨rfl, hC1, hFr, f1, ho1, hov⟩ hle
  have hM1 : MO h1 (x + 17) F A B := hM.fr (fun q a1 a2 => hFr q (Or.inr ⟨by omega, by omega⟩) (by omega))
  have hnx1 : cBase k ≤ nx1 := Nat.le_trans hnx hle
  refine r_istore g dL_law_149 rfl rfl rfl ?_
  refine r_aload_n g dL_law_151 rfl ?_
  refine r_aload_n g dL_law_152 rfl ?_
  refine r_iload g dL_law_153 rfl ?_
  refine r_iconst (v := 1) g dL_law_155 (by decide) ?_
  refine r_iadd g dL_law_156 ?_
  refine r_topi (y := (nI (i + 1))) (nI_add i 1) ?_
  refine r_sld (j := i + 1) g hx rfl (by omega) (by omega) dL_law_157 ?_
  refine r_aload_n g dL_law_158 rfl ?_
  refine r_iload g dL_law_159 rfl ?_
  refine r_iconst (v := 2) g dL_law_161 (by decide) ?_
  refine r_iadd g dL_law_162 ?_
  refine r_topi (y := (nI (i + 2))) (nI_add i 2) ?_
  refine r_sld (j := i + 2) g hx rfl (by omega) (by omega) dL_law_163 ?_
  refine r_callV g kL_75 (ok_m_car _ _ _ _ s hA hI hM1 (by omega) (xs (i + 1)) (xs (i + 2))) hM1.1 rfl rfl rfl hnx1 hR (by decide) (by omega) (by omega) rfl rfl dL_law_164 ?_
  rintro v9 h2 nx2 ⟨rfl, hv2, F2, A2, hM2, hI2, hF2, hSG⟩ -
  obtain ⟨y2, hv3, hy2⟩ : ∃ y, v9 = some (.int y) ∧ ((sCar s (xs (i + 1)) (xs (i + 2))).1 = 0 → y = (sCar s (xs (i + 1)) (xs (i + 2))).2.1) := hv2
  subst hv3
  refine r_istore g dL_law_167 rfl rfl rfl ?_
  refine r_aload_n g dL_law_169 rfl ?_
  refine r_pV g kL_76 (ok_m_thrown _ _ _ _ hM2.1) hM2.1.1 rfl rfl rfl hnx1 hR (by decide) (by omega) (by omega) rfl rfl dL_law_170 ?_
  refine r_topi (y := (nI ((sCar s (xs (i + 1)) (xs (i + 2))).1))) hF2 ?_
  refine r_iload g dL_law_173 rfl ?_
  refine r_icmp_eq 180 g dL_law_175 (by decide) (fun c175 => ?_) (fun c175 => absurd rfl c175)
  refine r_iload g dL_law_180 rfl ?_
  refine r_if_ne 197 g dL_law_182 (by decide) (fun c182 => ?_) (fun c182 => ?_)
  · skip
    refine r_goto 1081 g dL_law_197 (by decide) ?_
    refine r_le (ls2 := [some (.ref b), some (.ref x), some (.ref (x + 17)), some (.ref (x + 42)), some (.int (nI i)), none, none]) ⟨rfl, rfl, rfl, rfl, rfl, trivial⟩ ?_
    exact hback (sCar s (xs (i + 1)) (xs (i + 2))).2.2 r h2 nx1 _ _ ⟨(AI_Car hA (xs (i + 1)) (xs (i + 2))), hC1.ext (fun q hq => hM2.2 q (by omega)) (Nat.le_refl _), (RN_up hRN (N_Car s (xs (i + 1)) (xs (i + 2)))), ⟨F2, A2, B, hM2.1, hI2, hMG.same hSG⟩, f1, (hM2.2 _ (by omega)).trans ho1⟩ hnx1 (by omega) (by omega)
  · skip
    have hz : (sCar s (xs (i + 1)) (xs (i + 2))).1 = 0 := eq0 (by have := le2_Car s (xs (i + 1)) (xs (i + 2)); omega) c182
    have hov2 := hov hz
    have hy3 := hy2 hz
    refine r_aload_n g dL_law_185 rfl ?_
    refine r_iconst (v := 0) g dL_law_186 (by decide) ?_
    refine r_lald (j := 0) g ((hM2.2 _ (by omega)).trans ho1) rfl (by decide) (by decide) dL_law_187 ?_
    refine r_iload g dL_law_188 rfl ?_
    refine r_i2l g dL_law_190 ?_
    refine r_lcmp g dL_law_191 ?_
    refine r_if_eq 197 g dL_law_192 (by decide) (fun c192 => ?_) (fun c192 => absurd ((lg_cmp_eq _ _).mpr (by rw [hov2, ← hy3]; rfl)) c192)
    refine r_goto 1081 g dL_law_197 (by decide) ?_
    refine r_le (ls2 := [some (.ref b), some (.ref x), some (.ref (x + 17)), some (.ref (x + 42)), some (.int (nI i)), none, none]) ⟨rfl, rfl, rfl, rfl, rfl, trivial⟩ ?_
    exact hback (sCar s (xs (i + 1)) (xs (i + 2))).2.2 r h2 nx1 _ _ ⟨(AI_Car hA (xs (i + 1)) (xs (i + 2))), hC1.ext (fun q hq => hM2.2 q (by omega)) (Nat.le_refl _), (RN_up hRN (N_Car s (xs (i + 1)) (xs (i + 2)))), ⟨F2, A2, B, hM2.1, hI2, hMG.same hSG⟩, f1, (hM2.2 _ (by omega)).trans ho1⟩ hnx1 (by omega) (by omega)
set_option maxHeartbeats 4000000 in
set_option maxRecDepth 100000 in
theorem law_free {k : Cx} {b L : Nat} {xs : Nat → Int32} (g : Gd k RL cL_law) (hx : XS k b L xs) (hL : L ≤ 2049) (hR : RmK k 2000 601024 7293000) (hl : (cL k).stackTraces = false) {x i c0 s0 : Nat} (hbx : cBase k ≤ x) (hc0 : c0 ≤ 3000) (hs0 : s0 ≤ 600000) (hi : i + 3 < L) {s : AS} {r : GR} {h : Hp} {nx : Nat} (hnx : cBase k ≤ nx) (hLI : LI h nx x s r) (hback : ∀ (s : AS) (r : GR) (h : Hp) (nx c s9 : Nat), LI h nx x s r → cBase k ≤ nx → c ≤ c0 + 4 → s9 ≤ s0 + 909 → Sf k c s9 h nx 1081 [some (.ref b), some (.ref x), some (.ref (x + 17)), some (.ref (x + 42)), some (.int (nI i)), none, none] []) : Sf k c0 s0 h nx 200 [some (.ref b), some (.ref x), some (.ref (x + 17)), some (.ref (x + 42)), some (.int (nI i)), none, none] [] := by
  obtain ⟨hA, hC, hRN, ⟨F, A, B, hM, hI, hMG⟩, f9, ho⟩ := hLI
  have hln := hC.obj.2.2
  refine r_aload_n g dL_law_200 rfl ?_
  refine r_aload_n g dL_law_201 rfl ?_
  refine r_iload g dL_law_202 rfl ?_
  refine r_iconst (v := 1) g dL_law_204 (by decide) ?_
  refine r_iadd g dL_law_205 ?_
  refine r_topi (y := (nI (i + 1))) (nI_add i 1) ?_
  refine r_sld (j := i + 1) g hx rfl (by omega) (by omega) dL_law_206 ?_
  refine r_aload_n g dL_law_207 rfl ?_
  refine r_iload g dL_law_208 rfl ?_
  refine r_iconst (v := 2) g dL_law_210 (by decide) ?_
  refine r_iadd g dL_law_211 ?_
  refine r_topi (y := (nI (i + 2))) (nI_add i 2) ?_
  refine r_sld (j := i + 2) g hx rfl (by omega) (by omega) dL_law_212 ?_
  refine r_aload_n g dL_law_213 rfl ?_
  refine r_iload g dL_law_214 rfl ?_
  refine r_iconst (v := 3) g dL_law_216 (by decide) ?_
  refine r_iadd g dL_law_217 ?_
  refine r_topi (y := (nI (i + 3))) (nI_add i 3) ?_
  refine r_sld (j := i + 3) g hx rfl (by omega) (by omega) dL_law_218 ?_
  refine r_callC g kcL_80 (ok_l_free _ _ _ _ hl (r := r) (o := 0) hA hC hbx (xs (i + 1)) (xs (i + 2)) (xs (i + 3))) rfl rfl hnx hR (by decide) (by omega) (by omega) rfl rfl dL_law_219 ?_
  rintro v9 h1 nx1 ⟨rfl, hC1, hFr⟩ hle
  have ho1 := (hFr (x + 42) (Or.inr ⟨by omega, by omega⟩)).trans ho
  have hM1 : MO h1 (x + 17) F A B := hM.fr (fun q a1 a2 => hFr q (Or.inr ⟨by omega, by omega⟩))
  have hnx1 : cBase k ≤ nx1 := Nat.le_trans hnx hle
  refine r_istore g dL_law_222 rfl rfl rfl ?_
  refine r_aload_n g dL_law_224 rfl ?_
  refine r_aload_n g dL_law_225 rfl ?_
  refine r_iload g dL_law_226 rfl ?_
  refine r_iconst (v := 1) g dL_law_228 (by decide) ?_
  refine r_iadd g dL_law_229 ?_
  refine r_topi (y := (nI (i + 1))) (nI_add i 1) ?_
  refine r_sld (j := i + 1) g hx rfl (by omega) (by omega) dL_law_230 ?_
  refine r_aload_n g dL_law_231 rfl ?_
  refine r_iload g dL_law_232 rfl ?_
  refine r_iconst (v := 2) g dL_law_234 (by decide) ?_
  refine r_iadd g dL_law_235 ?_
  refine r_topi (y := (nI (i + 2))) (nI_add i 2) ?_
  refine r_sld (j := i + 2) g hx rfl (by omega) (by omega) dL_law_236 ?_
  refine r_aload_n g dL_law_237 rfl ?_
  refine r_iload g dL_law_238 rfl ?_
  refine r_iconst (v := 3) g dL_law_240 (by decide) ?_
  refine r_iadd g dL_law_241 ?_
  refine r_topi (y := (nI (i + 3))) (nI_add i 3) ?_
  refine r_sld (j := i + 3) g hx rfl (by omega) (by omega) dL_law_242 ?_
  refine r_callV g kL_83 (ok_m_free _ _ _ _ s hA hI hM1 (by omega) (xs (i + 1)) (xs (i + 2)) (xs (i + 3))) hM1.1 rfl rfl rfl hnx1 hR (by decide) (by omega) (by omega) rfl rfl dL_law_243 ?_
  rintro v9 h2 nx2 ⟨rfl, hv2, F2, A2, hM2, hI2, hF2, hSG⟩ -
  have hv3 : v9 = none := hv2
  subst hv3
  refine r_aload_n g dL_law_246 rfl ?_
  refine r_pV g kL_76 (ok_m_thrown _ _ _ _ hM2.1) hM2.1.1 rfl rfl rfl hnx1 hR (by decide) (by omega) (by omega) rfl rfl dL_law_247 ?_
  refine r_topi (y := (nI ((sFree s (xs (i + 1)) (xs (i + 2)) (xs (i + 3))).1))) hF2 ?_
  refine r_iload g dL_law_250 rfl ?_
  refine r_icmp_eq 257 g dL_law_252 (by decide) (fun c252 => ?_) (fun c252 => absurd rfl c252)
  refine r_goto 1081 g dL_law_257 (by decide) ?_
  refine r_le (ls2 := [some (.ref b), some (.ref x), some (.ref (x + 17)), some (.ref (x + 42)), some (.int (nI i)), none, none]) ⟨rfl, rfl, rfl, rfl, rfl, trivial⟩ ?_
  exact hback (sFree s (xs (i + 1)) (xs (i + 2)) (xs (i + 3))).2.2 r h2 nx1 _ _ ⟨(AI_Free hA (xs (i + 1)) (xs (i + 2)) (xs (i + 3))), hC1.ext (fun q hq => hM2.2 q (by omega)) (Nat.le_refl _), (RN_up hRN (N_Free s (xs (i + 1)) (xs (i + 2)) (xs (i + 3)))), ⟨F2, A2, B, hM2.1, hI2, hMG.same hSG⟩, f9, (hM2.2 _ (by omega)).trans ho1⟩ hnx1 (by omega) (by omega)
set_option maxHeartbeats 4000000 in
set_option maxRecDepth 100000 in
theorem law_zone {k : Cx} {b L : Nat} {xs : Nat → Int32} (g : Gd k RL cL_law) (hx : XS k b L xs) (hL : L ≤ 2049) (hR : RmK k 2000 601024 7293000) (hl : (cL k).stackTraces = false) {x i c0 s0 : Nat} (hbx : cBase k ≤ x) (hc0 : c0 ≤ 3000) (hs0 : s0 ≤ 600000) (hi : i + 3 < L) {s : AS} {r : GR} {h : Hp} {nx : Nat} (hnx : cBase k ≤ nx) (hLI : LI h nx x s r) (hback : ∀ (s : AS) (r : GR) (h : Hp) (nx c s9 : Nat), LI h nx x s r → cBase k ≤ nx → c ≤ c0 + 4 → s9 ≤ s0 + 909 → Sf k c s9 h nx 1081 [some (.ref b), some (.ref x), some (.ref (x + 17)), some (.ref (x + 42)), some (.int (nI i)), none, none] []) : Sf k c0 s0 h nx 260 [some (.ref b), some (.ref x), some (.ref (x + 17)), some (.ref (x + 42)), some (.int (nI i)), none, none] [] := by
  obtain ⟨hA, hC, hRN, ⟨F, A, B, hM, hI, hMG⟩, f9, ho⟩ := hLI
  have hln := hC.obj.2.2
  refine r_aload_n g dL_law_260 rfl ?_
  refine r_aload_n g dL_law_261 rfl ?_
  refine r_iload g dL_law_262 rfl ?_
  refine r_iconst (v := 1) g dL_law_264 (by decide) ?_
  refine r_iadd g dL_law_265 ?_
  refine r_topi (y := (nI (i + 1))) (nI_add i 1) ?_
  refine r_sld (j := i + 1) g hx rfl (by omega) (by omega) dL_law_266 ?_
  refine r_aload_n g dL_law_267 rfl ?_
  refine r_iload g dL_law_268 rfl ?_
  refine r_iconst (v := 2) g dL_law_270 (by decide) ?_
  refine r_iadd g dL_law_271 ?_
  refine r_topi (y := (nI (i + 2))) (nI_add i 2) ?_
  refine r_sld (j := i + 2) g hx rfl (by omega) (by omega) dL_law_272 ?_
  refine r_aload_n g dL_law_273 rfl ?_
  refine r_iload g dL_law_274 rfl ?_
  refine r_iconst (v := 3) g dL_law_276 (by decide) ?_
  refine r_iadd g dL_law_277 ?_
  refine r_topi (y := (nI (i + 3))) (nI_add i 3) ?_
  refine r_sld (j := i + 3) g hx rfl (by omega) (by omega) dL_law_278 ?_
  refine r_callC g kcL_84 (ok_l_zone _ _ _ _ hl (r := r) (o := 0) hA hC hbx (xs (i + 1)) (xs (i + 2)) (xs (i + 3))) rfl rfl hnx hR (by decide) (by omega) (by omega) rfl rfl dL_law_279 ?_
  rintro v9 h1 nx1 ⟨rfl, hC1, hFr⟩ hle
  have ho1 := (hFr (x + 42) (Or.inr ⟨by omega, by omega⟩)).trans ho
  have hM1 : MO h1 (x + 17) F A B := hM.fr (fun q a1 a2 => hFr q (Or.inr ⟨by omega, by omega⟩))
  have hnx1 : cBase k ≤ nx1 := Nat.le_trans hnx hle
  refine r_istore g dL_law_282 rfl rfl rfl ?_
  refine r_aload_n g dL_law_284 rfl ?_
  refine r_aload_n g dL_law_285 rfl ?_
  refine r_iload g dL_law_286 rfl ?_
  refine r_iconst (v := 1) g dL_law_288 (by decide) ?_
  refine r_iadd g dL_law_289 ?_
  refine r_topi (y := (nI (i + 1))) (nI_add i 1) ?_
  refine r_sld (j := i + 1) g hx rfl (by omega) (by omega) dL_law_290 ?_
  refine r_aload_n g dL_law_291 rfl ?_
  refine r_iload g dL_law_292 rfl ?_
  refine r_iconst (v := 2) g dL_law_294 (by decide) ?_
  refine r_iadd g dL_law_295 ?_
  refine r_topi (y := (nI (i + 2))) (nI_add i 2) ?_
  refine r_sld (j := i + 2) g hx rfl (by omega) (by omega) dL_law_296 ?_
  refine r_aload_n g dL_law_297 rfl ?_
  refine r_iload g dL_law_298 rfl ?_
  refine r_iconst (v := 3) g dL_law_300 (by decide) ?_
  refine r_iadd g dL_law_301 ?_
  refine r_topi (y := (nI (i + 3))) (nI_add i 3) ?_
  refine r_sld (j := i + 3) g hx rfl (by omega) (by omega) dL_law_302 ?_
  refine r_callV g kL_86 (ok_m_zone _ _ _ _ s hA hI hM1 (by omega) (xs (i + 1)) (xs (i + 2)) (xs (i + 3))) hM1.1 rfl rfl rfl hnx1 hR (by decide) (by omega) (by omega) rfl rfl dL_law_303 ?_
  rintro v9 h2 nx2 ⟨rfl, hv2, F2, A2, hM2, hI2, hF2, hSG⟩ -
  have hv3 : v9 = none := hv2
  subst hv3
  refine r_aload_n g dL_law_306 rfl ?_
  refine r_pV g kL_76 (ok_m_thrown _ _ _ _ hM2.1) hM2.1.1 rfl rfl rfl hnx1 hR (by decide) (by omega) (by omega) rfl rfl dL_law_307 ?_
  refine r_topi (y := (nI ((sZone s (xs (i + 1)) (xs (i + 2)) (xs (i + 3))).1))) hF2 ?_
  refine r_iload g dL_law_310 rfl ?_
  refine r_icmp_eq 317 g dL_law_312 (by decide) (fun c312 => ?_) (fun c312 => absurd rfl c312)
  refine r_goto 1081 g dL_law_317 (by decide) ?_
  refine r_le (ls2 := [some (.ref b), some (.ref x), some (.ref (x + 17)), some (.ref (x + 42)), some (.int (nI i)), none, none]) ⟨rfl, rfl, rfl, rfl, rfl, trivial⟩ ?_
  exact hback (sZone s (xs (i + 1)) (xs (i + 2)) (xs (i + 3))).2.2 r h2 nx1 _ _ ⟨(AI_Zone hA (xs (i + 1)) (xs (i + 2)) (xs (i + 3))), hC1.ext (fun q hq => hM2.2 q (by omega)) (Nat.le_refl _), (RN_up hRN (N_Zone s (xs (i + 1)) (xs (i + 2)) (xs (i + 3)))), ⟨F2, A2, B, hM2.1, hI2, hMG.same hSG⟩, f9, (hM2.2 _ (by omega)).trans ho1⟩ hnx1 (by omega) (by omega)
set_option maxHeartbeats 4000000 in
set_option maxRecDepth 100000 in
theorem law_sleep {k : Cx} {b L : Nat} {xs : Nat → Int32} (g : Gd k RL cL_law) (hx : XS k b L xs) (hL : L ≤ 2049) (hR : RmK k 2000 601024 7293000) (hl : (cL k).stackTraces = false) {x i c0 s0 : Nat} (hbx : cBase k ≤ x) (hc0 : c0 ≤ 3000) (hs0 : s0 ≤ 600000) (hi : i + 3 < L) {s : AS} {r : GR} {h : Hp} {nx : Nat} (hnx : cBase k ≤ nx) (hLI : LI h nx x s r) (hback : ∀ (s : AS) (r : GR) (h : Hp) (nx c s9 : Nat), LI h nx x s r → cBase k ≤ nx → c ≤ c0 + 4 → s9 ≤ s0 + 909 → Sf k c s9 h nx 1081 [some (.ref b), some (.ref x), some (.ref (x + 17)), some (.ref (x + 42)), some (.int (nI i)), none, none] []) : Sf k c0 s0 h nx 320 [some (.ref b), some (.ref x), some (.ref (x + 17)), some (.ref (x + 42)), some (.int (nI i)), none, none] [] := by
  obtain ⟨hA, hC, hRN, ⟨F, A, B, hM, hI, hMG⟩, f9, ho⟩ := hLI
  have hln := hC.obj.2.2
  refine r_aload_n g dL_law_320 rfl ?_
  refine r_aload_n g dL_law_321 rfl ?_
  refine r_iload g dL_law_322 rfl ?_
  refine r_iconst (v := 1) g dL_law_324 (by decide) ?_
  refine r_iadd g dL_law_325 ?_
  refine r_topi (y := (nI (i + 1))) (nI_add i 1) ?_
  refine r_sld (j := i + 1) g hx rfl (by omega) (by omega) dL_law_326 ?_
  refine r_aload_n g dL_law_327 rfl ?_
  refine r_iload g dL_law_328 rfl ?_
  refine r_iconst (v := 2) g dL_law_330 (by decide) ?_
  refine r_iadd g dL_law_331 ?_
  refine r_topi (y := (nI (i + 2))) (nI_add i 2) ?_
  refine r_sld (j := i + 2) g hx rfl (by omega) (by omega) dL_law_332 ?_
  refine r_if_eq 340 g dL_law_333 (by decide) (fun c333 => ?_) (fun c333 => ?_)
  · skip
    refine r_iconst (v := 0) g dL_law_340 (by decide) ?_
    refine r_aload_n g dL_law_341 rfl ?_
    refine r_callC g kcL_87 (ok_l_sleep _ _ _ _ hl (r := r) hA hC hbx ho (by omega) (by omega) (xs (i + 1)) false) rfl rfl hnx hR (by decide) (by omega) (by omega) rfl rfl dL_law_342 ?_
    rintro v9 h1 nx1 ⟨rfl, hC1, hFr, f1, ho1, hov⟩ hle
    have hM1 : MO h1 (x + 17) F A B := hM.fr (fun q a1 a2 => hFr q (Or.inr ⟨by omega, by omega⟩) (by omega))
    have hnx1 : cBase k ≤ nx1 := Nat.le_trans hnx hle
    refine r_istore g dL_law_345 rfl rfl rfl ?_
    refine r_aload_n g dL_law_347 rfl ?_
    refine r_aload_n g dL_law_348 rfl ?_
    refine r_iload g dL_law_349 rfl ?_
    refine r_iconst (v := 1) g dL_law_351 (by decide) ?_
    refine r_iadd g dL_law_352 ?_
    refine r_topi (y := (nI (i + 1))) (nI_add i 1) ?_
    refine r_sld (j := i + 1) g hx rfl (by omega) (by omega) dL_law_353 ?_
    refine r_aload_n g dL_law_354 rfl ?_
    refine r_iload g dL_law_355 rfl ?_
    refine r_iconst (v := 2) g dL_law_357 (by decide) ?_
    refine r_iadd g dL_law_358 ?_
    refine r_topi (y := (nI (i + 2))) (nI_add i 2) ?_
    refine r_sld (j := i + 2) g hx rfl (by omega) (by omega) dL_law_359 ?_
    refine r_if_eq 367 g dL_law_360 (by decide) (fun c360 => ?_) (fun c360 => absurd c333 c360)
    refine r_iconst (v := 0) g dL_law_367 (by decide) ?_
    refine r_callV g kL_90 (ok_m_sleep _ _ _ _ s hA hI hM1 (by omega) (xs (i + 1)) false) hM1.1 rfl rfl rfl hnx1 hR (by decide) (by omega) (by omega) rfl rfl dL_law_368 ?_
    rintro v9 h2 nx2 ⟨rfl, hv2, F2, A2, hM2, hI2, hF2, hSG⟩ -
    obtain ⟨y2, hv3, hy2⟩ : ∃ y, v9 = some (.int y) ∧ ((sSleep s (xs (i + 1)) false).1 = 0 → y = (sSleep s (xs (i + 1)) false).2.1) := hv2
    subst hv3
    refine r_istore g dL_law_371 rfl rfl rfl ?_
    refine r_aload_n g dL_law_373 rfl ?_
    refine r_pV g kL_76 (ok_m_thrown _ _ _ _ hM2.1) hM2.1.1 rfl rfl rfl hnx1 hR (by decide) (by omega) (by omega) rfl rfl dL_law_374 ?_
    refine r_topi (y := (nI ((sSleep s (xs (i + 1)) false).1))) hF2 ?_
    refine r_iload g dL_law_377 rfl ?_
    refine r_icmp_eq 384 g dL_law_379 (by decide) (fun c379 => ?_) (fun c379 => absurd rfl c379)
    refine r_iload g dL_law_384 rfl ?_
    refine r_if_ne 408 g dL_law_386 (by decide) (fun c386 => ?_) (fun c386 => ?_)
    · skip
      refine r_goto 1081 g dL_law_408 (by decide) ?_
      refine r_le (ls2 := [some (.ref b), some (.ref x), some (.ref (x + 17)), some (.ref (x + 42)), some (.int (nI i)), none, none]) ⟨rfl, rfl, rfl, rfl, rfl, trivial⟩ ?_
      exact hback (sSleep s (xs (i + 1)) false).2.2 r h2 nx1 _ _ ⟨(AI_Sleep hA (xs (i + 1)) false), hC1.ext (fun q hq => hM2.2 q (by omega)) (Nat.le_refl _), (RN_up hRN (N_Sleep s (xs (i + 1)) false)), ⟨F2, A2, B, hM2.1, hI2, hMG.same hSG⟩, f1, (hM2.2 _ (by omega)).trans ho1⟩ hnx1 (by omega) (by omega)
    · skip
      have hz : (sSleep s (xs (i + 1)) false).1 = 0 := eq0 (by have := le2_Sleep s (xs (i + 1)) false; omega) c386
      have hov2 := hov hz
      have hy3 := hy2 hz
      refine r_aload_n g dL_law_389 rfl ?_
      refine r_iconst (v := 0) g dL_law_390 (by decide) ?_
      refine r_lald (j := 0) g ((hM2.2 _ (by omega)).trans ho1) rfl (by decide) (by decide) dL_law_391 ?_
      refine r_iload g dL_law_392 rfl ?_
      refine r_if_eq 401 g dL_law_394 (by decide) (fun c394 => ?_) (fun c394 => ?_)
      · skip
        have hyb : y2 = 0 := c394
        refine r_lconst (v := 0) g dL_law_401 (by decide) ?_
        refine r_lcmp g dL_law_402 ?_
        refine r_if_eq 408 g dL_law_403 (by decide) (fun c403 => ?_) (fun c403 => absurd ((lg_cmp_eq _ _).mpr (by rw [hov2, ← hy3]; exact (if_pos hyb))) c403)
        refine r_goto 1081 g dL_law_408 (by decide) ?_
        refine r_le (ls2 := [some (.ref b), some (.ref x), some (.ref (x + 17)), some (.ref (x + 42)), some (.int (nI i)), none, none]) ⟨rfl, rfl, rfl, rfl, rfl, trivial⟩ ?_
        exact hback (sSleep s (xs (i + 1)) false).2.2 r h2 nx1 _ _ ⟨(AI_Sleep hA (xs (i + 1)) false), hC1.ext (fun q hq => hM2.2 q (by omega)) (Nat.le_refl _), (RN_up hRN (N_Sleep s (xs (i + 1)) false)), ⟨F2, A2, B, hM2.1, hI2, hMG.same hSG⟩, f1, (hM2.2 _ (by omega)).trans ho1⟩ hnx1 (by omega) (by omega)
      · skip
        have hyb : ¬ y2 = 0 := c394
        refine r_lconst (v := 1) g dL_law_397 (by decide) ?_
        refine r_goto 402 g dL_law_398 (by decide) ?_
        refine r_lcmp g dL_law_402 ?_
        refine r_if_eq 408 g dL_law_403 (by decide) (fun c403 => ?_) (fun c403 => absurd ((lg_cmp_eq _ _).mpr (by rw [hov2, ← hy3]; exact (if_neg hyb))) c403)
        refine r_goto 1081 g dL_law_408 (by decide) ?_
        refine r_le (ls2 := [some (.ref b), some (.ref x), some (.ref (x + 17)), some (.ref (x + 42)), some (.int (nI i)), none, none]) ⟨rfl, rfl, rfl, rfl, rfl, trivial⟩ ?_
        exact hback (sSleep s (xs (i + 1)) false).2.2 r h2 nx1 _ _ ⟨(AI_Sleep hA (xs (i + 1)) false), hC1.ext (fun q hq => hM2.2 q (by omega)) (Nat.le_refl _), (RN_up hRN (N_Sleep s (xs (i + 1)) false)), ⟨F2, A2, B, hM2.1, hI2, hMG.same hSG⟩, f1, (hM2.2 _ (by omega)).trans ho1⟩ hnx1 (by omega) (by omega)
  · skip
    refine r_iconst (v := 1) g dL_law_336 (by decide) ?_
    refine r_goto 341 g dL_law_337 (by decide) ?_
    refine r_aload_n g dL_law_341 rfl ?_
    refine r_callC g kcL_87 (ok_l_sleep _ _ _ _ hl (r := r) hA hC hbx ho (by omega) (by omega) (xs (i + 1)) true) rfl rfl hnx hR (by decide) (by omega) (by omega) rfl rfl dL_law_342 ?_
    rintro v9 h1 nx1 ⟨rfl, hC1, hFr, f1, ho1, hov⟩ hle
    have hM1 : MO h1 (x + 17) F A B := hM.fr (fun q a1 a2 => hFr q (Or.inr ⟨by omega, by omega⟩) (by omega))
    have hnx1 : cBase k ≤ nx1 := Nat.le_trans hnx hle
    refine r_istore g dL_law_345 rfl rfl rfl ?_
    refine r_aload_n g dL_law_347 rfl ?_
    refine r_aload_n g dL_law_348 rfl ?_
    refine r_iload g dL_law_349 rfl ?_
    refine r_iconst (v := 1) g dL_law_351 (by decide) ?_
    refine r_iadd g dL_law_352 ?_
    refine r_topi (y := (nI (i + 1))) (nI_add i 1) ?_
    refine r_sld (j := i + 1) g hx rfl (by omega) (by omega) dL_law_353 ?_
    refine r_aload_n g dL_law_354 rfl ?_
    refine r_iload g dL_law_355 rfl ?_
    refine r_iconst (v := 2) g dL_law_357 (by decide) ?_
    refine r_iadd g dL_law_358 ?_
    refine r_topi (y := (nI (i + 2))) (nI_add i 2) ?_
    refine r_sld (j := i + 2) g hx rfl (by omega) (by omega) dL_law_359 ?_
    refine r_if_eq 367 g dL_law_360 (by decide) (fun c360 => absurd c360 c333) (fun c360 => ?_)
    refine r_iconst (v := 1) g dL_law_363 (by decide) ?_
    refine r_goto 368 g dL_law_364 (by decide) ?_
    refine r_callV g kL_90 (ok_m_sleep _ _ _ _ s hA hI hM1 (by omega) (xs (i + 1)) true) hM1.1 rfl rfl rfl hnx1 hR (by decide) (by omega) (by omega) rfl rfl dL_law_368 ?_
    rintro v9 h2 nx2 ⟨rfl, hv2, F2, A2, hM2, hI2, hF2, hSG⟩ -
    obtain ⟨y2, hv3, hy2⟩ : ∃ y, v9 = some (.int y) ∧ ((sSleep s (xs (i + 1)) true).1 = 0 → y = (sSleep s (xs (i + 1)) true).2.1) := hv2
    subst hv3
    refine r_istore g dL_law_371 rfl rfl rfl ?_
    refine r_aload_n g dL_law_373 rfl ?_
    refine r_pV g kL_76 (ok_m_thrown _ _ _ _ hM2.1) hM2.1.1 rfl rfl rfl hnx1 hR (by decide) (by omega) (by omega) rfl rfl dL_law_374 ?_
    refine r_topi (y := (nI ((sSleep s (xs (i + 1)) true).1))) hF2 ?_
    refine r_iload g dL_law_377 rfl ?_
    refine r_icmp_eq 384 g dL_law_379 (by decide) (fun c379 => ?_) (fun c379 => absurd rfl c379)
    refine r_iload g dL_law_384 rfl ?_
    refine r_if_ne 408 g dL_law_386 (by decide) (fun c386 => ?_) (fun c386 => ?_)
    · skip
      refine r_goto 1081 g dL_law_408 (by decide) ?_
      refine r_le (ls2 := [some (.ref b), some (.ref x), some (.ref (x + 17)), some (.ref (x + 42)), some (.int (nI i)), none, none]) ⟨rfl, rfl, rfl, rfl, rfl, trivial⟩ ?_
      exact hback (sSleep s (xs (i + 1)) true).2.2 r h2 nx1 _ _ ⟨(AI_Sleep hA (xs (i + 1)) true), hC1.ext (fun q hq => hM2.2 q (by omega)) (Nat.le_refl _), (RN_up hRN (N_Sleep s (xs (i + 1)) true)), ⟨F2, A2, B, hM2.1, hI2, hMG.same hSG⟩, f1, (hM2.2 _ (by omega)).trans ho1⟩ hnx1 (by omega) (by omega)
    · skip
      have hz : (sSleep s (xs (i + 1)) true).1 = 0 := eq0 (by have := le2_Sleep s (xs (i + 1)) true; omega) c386
      have hov2 := hov hz
      have hy3 := hy2 hz
      refine r_aload_n g dL_law_389 rfl ?_
      refine r_iconst (v := 0) g dL_law_390 (by decide) ?_
      refine r_lald (j := 0) g ((hM2.2 _ (by omega)).trans ho1) rfl (by decide) (by decide) dL_law_391 ?_
      refine r_iload g dL_law_392 rfl ?_
      refine r_if_eq 401 g dL_law_394 (by decide) (fun c394 => ?_) (fun c394 => ?_)
      · skip
        have hyb : y2 = 0 := c394
        refine r_lconst (v := 0) g dL_law_401 (by decide) ?_
        refine r_lcmp g dL_law_402 ?_
        refine r_if_eq 408 g dL_law_403 (by decide) (fun c403 => ?_) (fun c403 => absurd ((lg_cmp_eq _ _).mpr (by rw [hov2, ← hy3]; exact (if_pos hyb))) c403)
        refine r_goto 1081 g dL_law_408 (by decide) ?_
        refine r_le (ls2 := [some (.ref b), some (.ref x), some (.ref (x + 17)), some (.ref (x + 42)), some (.int (nI i)), none, none]) ⟨rfl, rfl, rfl, rfl, rfl, trivial⟩ ?_
        exact hback (sSleep s (xs (i + 1)) true).2.2 r h2 nx1 _ _ ⟨(AI_Sleep hA (xs (i + 1)) true), hC1.ext (fun q hq => hM2.2 q (by omega)) (Nat.le_refl _), (RN_up hRN (N_Sleep s (xs (i + 1)) true)), ⟨F2, A2, B, hM2.1, hI2, hMG.same hSG⟩, f1, (hM2.2 _ (by omega)).trans ho1⟩ hnx1 (by omega) (by omega)
      · skip
        have hyb : ¬ y2 = 0 := c394
        refine r_lconst (v := 1) g dL_law_397 (by decide) ?_
        refine r_goto 402 g dL_law_398 (by decide) ?_
        refine r_lcmp g dL_law_402 ?_
        refine r_if_eq 408 g dL_law_403 (by decide) (fun c403 => ?_) (fun c403 => absurd ((lg_cmp_eq _ _).mpr (by rw [hov2, ← hy3]; exact (if_neg hyb))) c403)
        refine r_goto 1081 g dL_law_408 (by decide) ?_
        refine r_le (ls2 := [some (.ref b), some (.ref x), some (.ref (x + 17)), some (.ref (x + 42)), some (.int (nI i)), none, none]) ⟨rfl, rfl, rfl, rfl, rfl, trivial⟩ ?_
        exact hback (sSleep s (xs (i + 1)) true).2.2 r h2 nx1 _ _ ⟨(AI_Sleep hA (xs (i + 1)) true), hC1.ext (fun q hq => hM2.2 q (by omega)) (Nat.le_refl _), (RN_up hRN (N_Sleep s (xs (i + 1)) true)), ⟨F2, A2, B, hM2.1, hI2, hMG.same hSG⟩, f1, (hM2.2 _ (by omega)).trans ho1⟩ hnx1 (by omega) (by omega)
set_option maxHeartbeats 4000000 in
set_option maxRecDepth 100000 in
theorem law_call {k : Cx} {b L : Nat} {xs : Nat → Int32} (g : Gd k RL cL_law) (hx : XS k b L xs) (hL : L ≤ 2049) (hR : RmK k 2000 601024 7293000) (hl : (cL k).stackTraces = false) {x i c0 s0 : Nat} (hbx : cBase k ≤ x) (hc0 : c0 ≤ 3000) (hs0 : s0 ≤ 600000) (hi : i + 3 < L) {s : AS} {r : GR} {h : Hp} {nx : Nat} (hnx : cBase k ≤ nx) (hLI : LI h nx x s r) (hback : ∀ (s : AS) (r : GR) (h : Hp) (nx c s9 : Nat), LI h nx x s r → cBase k ≤ nx → c ≤ c0 + 4 → s9 ≤ s0 + 909 → Sf k c s9 h nx 1081 [some (.ref b), some (.ref x), some (.ref (x + 17)), some (.ref (x + 42)), some (.int (nI i)), none, none] []) : Sf k c0 s0 h nx 411 [some (.ref b), some (.ref x), some (.ref (x + 17)), some (.ref (x + 42)), some (.int (nI i)), none, none] [] := by
  obtain ⟨hA, hC, hRN, ⟨F, A, B, hM, hI, hMG⟩, f9, ho⟩ := hLI
  have hln := hC.obj.2.2
  refine r_aload_n g dL_law_411 rfl ?_
  refine r_aload_n g dL_law_412 rfl ?_
  refine r_iload g dL_law_413 rfl ?_
  refine r_iconst (v := 1) g dL_law_415 (by decide) ?_
  refine r_iadd g dL_law_416 ?_
  refine r_topi (y := (nI (i + 1))) (nI_add i 1) ?_
  refine r_sld (j := i + 1) g hx rfl (by omega) (by omega) dL_law_417 ?_
  refine r_aload_n g dL_law_418 rfl ?_
  refine r_iload g dL_law_419 rfl ?_
  refine r_iconst (v := 2) g dL_law_421 (by decide) ?_
  refine r_iadd g dL_law_422 ?_
  refine r_topi (y := (nI (i + 2))) (nI_add i 2) ?_
  refine r_sld (j := i + 2) g hx rfl (by omega) (by omega) dL_law_423 ?_
  refine r_aload_n g dL_law_424 rfl ?_
  refine r_callC g kcL_91 (ok_l_call _ _ _ _ hl (r := r) hA hC hbx ho (by omega) (by omega) (xs (i + 1)) (xs (i + 2))) rfl rfl hnx hR (by decide) (by omega) (by omega) rfl rfl dL_law_425 ?_
  rintro v9 h1 nx1 ⟨rfl, hC1, hFr, f1, ho1, hov⟩ hle
  have hM1 : MO h1 (x + 17) F A B := hM.fr (fun q a1 a2 => hFr q (Or.inr ⟨by omega, by omega⟩) (by omega))
  have hnx1 : cBase k ≤ nx1 := Nat.le_trans hnx hle
  refine r_istore g dL_law_428 rfl rfl rfl ?_
  refine r_aload_n g dL_law_430 rfl ?_
  refine r_aload_n g dL_law_431 rfl ?_
  refine r_iload g dL_law_432 rfl ?_
  refine r_iconst (v := 1) g dL_law_434 (by decide) ?_
  refine r_iadd g dL_law_435 ?_
  refine r_topi (y := (nI (i + 1))) (nI_add i 1) ?_
  refine r_sld (j := i + 1) g hx rfl (by omega) (by omega) dL_law_436 ?_
  refine r_aload_n g dL_law_437 rfl ?_
  refine r_iload g dL_law_438 rfl ?_
  refine r_iconst (v := 2) g dL_law_440 (by decide) ?_
  refine r_iadd g dL_law_441 ?_
  refine r_topi (y := (nI (i + 2))) (nI_add i 2) ?_
  refine r_sld (j := i + 2) g hx rfl (by omega) (by omega) dL_law_442 ?_
  refine r_callV g kL_93 (ok_m_call _ _ _ _ s hA hI hM1 (by omega) (xs (i + 1)) (xs (i + 2))) hM1.1 rfl rfl rfl hnx1 hR (by decide) (by omega) (by omega) rfl rfl dL_law_443 ?_
  rintro v9 h2 nx2 ⟨rfl, hv2, F2, A2, hM2, hI2, hF2, hSG⟩ -
  obtain ⟨y2, hv3, hy2⟩ : ∃ y, v9 = some (.int y) ∧ ((sCall s (xs (i + 1)) (xs (i + 2))).1 = 0 → y = (sCall s (xs (i + 1)) (xs (i + 2))).2.1) := hv2
  subst hv3
  refine r_istore g dL_law_446 rfl rfl rfl ?_
  refine r_aload_n g dL_law_448 rfl ?_
  refine r_pV g kL_76 (ok_m_thrown _ _ _ _ hM2.1) hM2.1.1 rfl rfl rfl hnx1 hR (by decide) (by omega) (by omega) rfl rfl dL_law_449 ?_
  refine r_topi (y := (nI ((sCall s (xs (i + 1)) (xs (i + 2))).1))) hF2 ?_
  refine r_iload g dL_law_452 rfl ?_
  refine r_icmp_eq 459 g dL_law_454 (by decide) (fun c454 => ?_) (fun c454 => absurd rfl c454)
  refine r_iload g dL_law_459 rfl ?_
  refine r_if_ne 476 g dL_law_461 (by decide) (fun c461 => ?_) (fun c461 => ?_)
  · skip
    refine r_goto 1081 g dL_law_476 (by decide) ?_
    refine r_le (ls2 := [some (.ref b), some (.ref x), some (.ref (x + 17)), some (.ref (x + 42)), some (.int (nI i)), none, none]) ⟨rfl, rfl, rfl, rfl, rfl, trivial⟩ ?_
    exact hback (sCall s (xs (i + 1)) (xs (i + 2))).2.2 r h2 nx1 _ _ ⟨(AI_Call hA (xs (i + 1)) (xs (i + 2))), hC1.ext (fun q hq => hM2.2 q (by omega)) (Nat.le_refl _), (RN_up hRN (N_Call s (xs (i + 1)) (xs (i + 2)))), ⟨F2, A2, B, hM2.1, hI2, hMG.same hSG⟩, f1, (hM2.2 _ (by omega)).trans ho1⟩ hnx1 (by omega) (by omega)
  · skip
    have hz : (sCall s (xs (i + 1)) (xs (i + 2))).1 = 0 := eq0 (by have := le2_Call s (xs (i + 1)) (xs (i + 2)); omega) c461
    have hov2 := hov hz
    have hy3 := hy2 hz
    refine r_aload_n g dL_law_464 rfl ?_
    refine r_iconst (v := 0) g dL_law_465 (by decide) ?_
    refine r_lald (j := 0) g ((hM2.2 _ (by omega)).trans ho1) rfl (by decide) (by decide) dL_law_466 ?_
    refine r_iload g dL_law_467 rfl ?_
    refine r_i2l g dL_law_469 ?_
    refine r_lcmp g dL_law_470 ?_
    refine r_if_eq 476 g dL_law_471 (by decide) (fun c471 => ?_) (fun c471 => absurd ((lg_cmp_eq _ _).mpr (by rw [hov2, ← hy3]; rfl)) c471)
    refine r_goto 1081 g dL_law_476 (by decide) ?_
    refine r_le (ls2 := [some (.ref b), some (.ref x), some (.ref (x + 17)), some (.ref (x + 42)), some (.int (nI i)), none, none]) ⟨rfl, rfl, rfl, rfl, rfl, trivial⟩ ?_
    exact hback (sCall s (xs (i + 1)) (xs (i + 2))).2.2 r h2 nx1 _ _ ⟨(AI_Call hA (xs (i + 1)) (xs (i + 2))), hC1.ext (fun q hq => hM2.2 q (by omega)) (Nat.le_refl _), (RN_up hRN (N_Call s (xs (i + 1)) (xs (i + 2)))), ⟨F2, A2, B, hM2.1, hI2, hMG.same hSG⟩, f1, (hM2.2 _ (by omega)).trans ho1⟩ hnx1 (by omega) (by omega)
set_option maxHeartbeats 4000000 in
set_option maxRecDepth 100000 in
theorem law_urgent {k : Cx} {b L : Nat} {xs : Nat → Int32} (g : Gd k RL cL_law) (hx : XS k b L xs) (hL : L ≤ 2049) (hR : RmK k 2000 601024 7293000) (hl : (cL k).stackTraces = false) {x i c0 s0 : Nat} (hbx : cBase k ≤ x) (hc0 : c0 ≤ 3000) (hs0 : s0 ≤ 600000) (hi : i + 3 < L) {s : AS} {r : GR} {h : Hp} {nx : Nat} (hnx : cBase k ≤ nx) (hLI : LI h nx x s r) (hback : ∀ (s : AS) (r : GR) (h : Hp) (nx c s9 : Nat), LI h nx x s r → cBase k ≤ nx → c ≤ c0 + 4 → s9 ≤ s0 + 909 → Sf k c s9 h nx 1081 [some (.ref b), some (.ref x), some (.ref (x + 17)), some (.ref (x + 42)), some (.int (nI i)), none, none] []) : Sf k c0 s0 h nx 479 [some (.ref b), some (.ref x), some (.ref (x + 17)), some (.ref (x + 42)), some (.int (nI i)), none, none] [] := by
  obtain ⟨hA, hC, hRN, ⟨F, A, B, hM, hI, hMG⟩, f9, ho⟩ := hLI
  have hln := hC.obj.2.2
  refine r_aload_n g dL_law_479 rfl ?_
  refine r_aload_n g dL_law_480 rfl ?_
  refine r_iload g dL_law_481 rfl ?_
  refine r_iconst (v := 1) g dL_law_483 (by decide) ?_
  refine r_iadd g dL_law_484 ?_
  refine r_topi (y := (nI (i + 1))) (nI_add i 1) ?_
  refine r_sld (j := i + 1) g hx rfl (by omega) (by omega) dL_law_485 ?_
  refine r_aload_n g dL_law_486 rfl ?_
  refine r_iload g dL_law_487 rfl ?_
  refine r_iconst (v := 2) g dL_law_489 (by decide) ?_
  refine r_iadd g dL_law_490 ?_
  refine r_topi (y := (nI (i + 2))) (nI_add i 2) ?_
  refine r_sld (j := i + 2) g hx rfl (by omega) (by omega) dL_law_491 ?_
  refine r_if_eq 499 g dL_law_492 (by decide) (fun c492 => ?_) (fun c492 => ?_)
  · skip
    refine r_iconst (v := 0) g dL_law_499 (by decide) ?_
    refine r_aload_n g dL_law_500 rfl ?_
    refine r_callC g kcL_94 (ok_l_urgent _ _ _ _ hl (r := r) hA hC hbx ho (by omega) (by omega) (xs (i + 1)) false) rfl rfl hnx hR (by decide) (by omega) (by omega) rfl rfl dL_law_501 ?_
    rintro v9 h1 nx1 ⟨rfl, hC1, hFr, f1, ho1, hov⟩ hle
    have hM1 : MO h1 (x + 17) F A B := hM.fr (fun q a1 a2 => hFr q (Or.inr ⟨by omega, by omega⟩) (by omega))
    have hnx1 : cBase k ≤ nx1 := Nat.le_trans hnx hle
    refine r_istore g dL_law_504 rfl rfl rfl ?_
    refine r_aload_n g dL_law_506 rfl ?_
    refine r_aload_n g dL_law_507 rfl ?_
    refine r_iload g dL_law_508 rfl ?_
    refine r_iconst (v := 1) g dL_law_510 (by decide) ?_
    refine r_iadd g dL_law_511 ?_
    refine r_topi (y := (nI (i + 1))) (nI_add i 1) ?_
    refine r_sld (j := i + 1) g hx rfl (by omega) (by omega) dL_law_512 ?_
    refine r_aload_n g dL_law_513 rfl ?_
    refine r_iload g dL_law_514 rfl ?_
    refine r_iconst (v := 2) g dL_law_516 (by decide) ?_
    refine r_iadd g dL_law_517 ?_
    refine r_topi (y := (nI (i + 2))) (nI_add i 2) ?_
    refine r_sld (j := i + 2) g hx rfl (by omega) (by omega) dL_law_518 ?_
    refine r_if_eq 526 g dL_law_519 (by decide) (fun c519 => ?_) (fun c519 => absurd c492 c519)
    refine r_iconst (v := 0) g dL_law_526 (by decide) ?_
    refine r_callV g kL_96 (ok_m_urgent _ _ _ _ s hA hI hM1 (by omega) (xs (i + 1)) false) hM1.1 rfl rfl rfl hnx1 hR (by decide) (by omega) (by omega) rfl rfl dL_law_527 ?_
    rintro v9 h2 nx2 ⟨rfl, hv2, F2, A2, hM2, hI2, hF2, hSG⟩ -
    obtain ⟨y2, hv3, hy2⟩ : ∃ y, v9 = some (.int y) ∧ ((sUrgent s (xs (i + 1)) false).1 = 0 → y = (sUrgent s (xs (i + 1)) false).2.1) := hv2
    subst hv3
    refine r_istore g dL_law_530 rfl rfl rfl ?_
    refine r_aload_n g dL_law_532 rfl ?_
    refine r_pV g kL_76 (ok_m_thrown _ _ _ _ hM2.1) hM2.1.1 rfl rfl rfl hnx1 hR (by decide) (by omega) (by omega) rfl rfl dL_law_533 ?_
    refine r_topi (y := (nI ((sUrgent s (xs (i + 1)) false).1))) hF2 ?_
    refine r_iload g dL_law_536 rfl ?_
    refine r_icmp_eq 543 g dL_law_538 (by decide) (fun c538 => ?_) (fun c538 => absurd rfl c538)
    refine r_iload g dL_law_543 rfl ?_
    refine r_if_ne 567 g dL_law_545 (by decide) (fun c545 => ?_) (fun c545 => ?_)
    · skip
      refine r_goto 1081 g dL_law_567 (by decide) ?_
      refine r_le (ls2 := [some (.ref b), some (.ref x), some (.ref (x + 17)), some (.ref (x + 42)), some (.int (nI i)), none, none]) ⟨rfl, rfl, rfl, rfl, rfl, trivial⟩ ?_
      exact hback (sUrgent s (xs (i + 1)) false).2.2 r h2 nx1 _ _ ⟨(AI_Urgent hA (xs (i + 1)) false), hC1.ext (fun q hq => hM2.2 q (by omega)) (Nat.le_refl _), (RN_up hRN (N_Urgent s (xs (i + 1)) false)), ⟨F2, A2, B, hM2.1, hI2, hMG.same hSG⟩, f1, (hM2.2 _ (by omega)).trans ho1⟩ hnx1 (by omega) (by omega)
    · skip
      have hz : (sUrgent s (xs (i + 1)) false).1 = 0 := eq0 (by have := le2_Urgent s (xs (i + 1)) false; omega) c545
      have hov2 := hov hz
      have hy3 := hy2 hz
      refine r_aload_n g dL_law_548 rfl ?_
      refine r_iconst (v := 0) g dL_law_549 (by decide) ?_
      refine r_lald (j := 0) g ((hM2.2 _ (by omega)).trans ho1) rfl (by decide) (by decide) dL_law_550 ?_
      refine r_iload g dL_law_551 rfl ?_
      refine r_if_eq 560 g dL_law_553 (by decide) (fun c553 => ?_) (fun c553 => ?_)
      · skip
        have hyb : y2 = 0 := c553
        refine r_lconst (v := 0) g dL_law_560 (by decide) ?_
        refine r_lcmp g dL_law_561 ?_
        refine r_if_eq 567 g dL_law_562 (by decide) (fun c562 => ?_) (fun c562 => absurd ((lg_cmp_eq _ _).mpr (by rw [hov2, ← hy3]; exact (if_pos hyb))) c562)
        refine r_goto 1081 g dL_law_567 (by decide) ?_
        refine r_le (ls2 := [some (.ref b), some (.ref x), some (.ref (x + 17)), some (.ref (x + 42)), some (.int (nI i)), none, none]) ⟨rfl, rfl, rfl, rfl, rfl, trivial⟩ ?_
        exact hback (sUrgent s (xs (i + 1)) false).2.2 r h2 nx1 _ _ ⟨(AI_Urgent hA (xs (i + 1)) false), hC1.ext (fun q hq => hM2.2 q (by omega)) (Nat.le_refl _), (RN_up hRN (N_Urgent s (xs (i + 1)) false)), ⟨F2, A2, B, hM2.1, hI2, hMG.same hSG⟩, f1, (hM2.2 _ (by omega)).trans ho1⟩ hnx1 (by omega) (by omega)
      · skip
        have hyb : ¬ y2 = 0 := c553
        refine r_lconst (v := 1) g dL_law_556 (by decide) ?_
        refine r_goto 561 g dL_law_557 (by decide) ?_
        refine r_lcmp g dL_law_561 ?_
        refine r_if_eq 567 g dL_law_562 (by decide) (fun c562 => ?_) (fun c562 => absurd ((lg_cmp_eq _ _).mpr (by rw [hov2, ← hy3]; exact (if_neg hyb))) c562)
        refine r_goto 1081 g dL_law_567 (by decide) ?_
        refine r_le (ls2 := [some (.ref b), some (.ref x), some (.ref (x + 17)), some (.ref (x + 42)), some (.int (nI i)), none, none]) ⟨rfl, rfl, rfl, rfl, rfl, trivial⟩ ?_
        exact hback (sUrgent s (xs (i + 1)) false).2.2 r h2 nx1 _ _ ⟨(AI_Urgent hA (xs (i + 1)) false), hC1.ext (fun q hq => hM2.2 q (by omega)) (Nat.le_refl _), (RN_up hRN (N_Urgent s (xs (i + 1)) false)), ⟨F2, A2, B, hM2.1, hI2, hMG.same hSG⟩, f1, (hM2.2 _ (by omega)).trans ho1⟩ hnx1 (by omega) (by omega)
  · skip
    refine r_iconst (v := 1) g dL_law_495 (by decide) ?_
    refine r_goto 500 g dL_law_496 (by decide) ?_
    refine r_aload_n g dL_law_500 rfl ?_
    refine r_callC g kcL_94 (ok_l_urgent _ _ _ _ hl (r := r) hA hC hbx ho (by omega) (by omega) (xs (i + 1)) true) rfl rfl hnx hR (by decide) (by omega) (by omega) rfl rfl dL_law_501 ?_
    rintro v9 h1 nx1 ⟨rfl, hC1, hFr, f1, ho1, hov⟩ hle
    have hM1 : MO h1 (x + 17) F A B := hM.fr (fun q a1 a2 => hFr q (Or.inr ⟨by omega, by omega⟩) (by omega))
    have hnx1 : cBase k ≤ nx1 := Nat.le_trans hnx hle
    refine r_istore g dL_law_504 rfl rfl rfl ?_
    refine r_aload_n g dL_law_506 rfl ?_
    refine r_aload_n g dL_law_507 rfl ?_
    refine r_iload g dL_law_508 rfl ?_
    refine r_iconst (v := 1) g dL_law_510 (by decide) ?_
    refine r_iadd g dL_law_511 ?_
    refine r_topi (y := (nI (i + 1))) (nI_add i 1) ?_
    refine r_sld (j := i + 1) g hx rfl (by omega) (by omega) dL_law_512 ?_
    refine r_aload_n g dL_law_513 rfl ?_
    refine r_iload g dL_law_514 rfl ?_
    refine r_iconst (v := 2) g dL_law_516 (by decide) ?_
    refine r_iadd g dL_law_517 ?_
    refine r_topi (y := (nI (i + 2))) (nI_add i 2) ?_
    refine r_sld (j := i + 2) g hx rfl (by omega) (by omega) dL_law_518 ?_
    refine r_if_eq 526 g dL_law_519 (by decide) (fun c519 => absurd c519 c492) (fun c519 => ?_)
    refine r_iconst (v := 1) g dL_law_522 (by decide) ?_
    refine r_goto 527 g dL_law_523 (by decide) ?_
    refine r_callV g kL_96 (ok_m_urgent _ _ _ _ s hA hI hM1 (by omega) (xs (i + 1)) true) hM1.1 rfl rfl rfl hnx1 hR (by decide) (by omega) (by omega) rfl rfl dL_law_527 ?_
    rintro v9 h2 nx2 ⟨rfl, hv2, F2, A2, hM2, hI2, hF2, hSG⟩ -
    obtain ⟨y2, hv3, hy2⟩ : ∃ y, v9 = some (.int y) ∧ ((sUrgent s (xs (i + 1)) true).1 = 0 → y = (sUrgent s (xs (i + 1)) true).2.1) := hv2
    subst hv3
    refine r_istore g dL_law_530 rfl rfl rfl ?_
    refine r_aload_n g dL_law_532 rfl ?_
    refine r_pV g kL_76 (ok_m_thrown _ _ _ _ hM2.1) hM2.1.1 rfl rfl rfl hnx1 hR (by decide) (by omega) (by omega) rfl rfl dL_law_533 ?_
    refine r_topi (y := (nI ((sUrgent s (xs (i + 1)) true).1))) hF2 ?_
    refine r_iload g dL_law_536 rfl ?_
    refine r_icmp_eq 543 g dL_law_538 (by decide) (fun c538 => ?_) (fun c538 => absurd rfl c538)
    refine r_iload g dL_law_543 rfl ?_
    refine r_if_ne 567 g dL_law_545 (by decide) (fun c545 => ?_) (fun c545 => ?_)
    · skip
      refine r_goto 1081 g dL_law_567 (by decide) ?_
      refine r_le (ls2 := [some (.ref b), some (.ref x), some (.ref (x + 17)), some (.ref (x + 42)), some (.int (nI i)), none, none]) ⟨rfl, rfl, rfl, rfl, rfl, trivial⟩ ?_
      exact hback (sUrgent s (xs (i + 1)) true).2.2 r h2 nx1 _ _ ⟨(AI_Urgent hA (xs (i + 1)) true), hC1.ext (fun q hq => hM2.2 q (by omega)) (Nat.le_refl _), (RN_up hRN (N_Urgent s (xs (i + 1)) true)), ⟨F2, A2, B, hM2.1, hI2, hMG.same hSG⟩, f1, (hM2.2 _ (by omega)).trans ho1⟩ hnx1 (by omega) (by omega)
    · skip
      have hz : (sUrgent s (xs (i + 1)) true).1 = 0 := eq0 (by have := le2_Urgent s (xs (i + 1)) true; omega) c545
      have hov2 := hov hz
      have hy3 := hy2 hz
      refine r_aload_n g dL_law_548 rfl ?_
      refine r_iconst (v := 0) g dL_law_549 (by decide) ?_
      refine r_lald (j := 0) g ((hM2.2 _ (by omega)).trans ho1) rfl (by decide) (by decide) dL_law_550 ?_
      refine r_iload g dL_law_551 rfl ?_
      refine r_if_eq 560 g dL_law_553 (by decide) (fun c553 => ?_) (fun c553 => ?_)
      · skip
        have hyb : y2 = 0 := c553
        refine r_lconst (v := 0) g dL_law_560 (by decide) ?_
        refine r_lcmp g dL_law_561 ?_
        refine r_if_eq 567 g dL_law_562 (by decide) (fun c562 => ?_) (fun c562 => absurd ((lg_cmp_eq _ _).mpr (by rw [hov2, ← hy3]; exact (if_pos hyb))) c562)
        refine r_goto 1081 g dL_law_567 (by decide) ?_
        refine r_le (ls2 := [some (.ref b), some (.ref x), some (.ref (x + 17)), some (.ref (x + 42)), some (.int (nI i)), none, none]) ⟨rfl, rfl, rfl, rfl, rfl, trivial⟩ ?_
        exact hback (sUrgent s (xs (i + 1)) true).2.2 r h2 nx1 _ _ ⟨(AI_Urgent hA (xs (i + 1)) true), hC1.ext (fun q hq => hM2.2 q (by omega)) (Nat.le_refl _), (RN_up hRN (N_Urgent s (xs (i + 1)) true)), ⟨F2, A2, B, hM2.1, hI2, hMG.same hSG⟩, f1, (hM2.2 _ (by omega)).trans ho1⟩ hnx1 (by omega) (by omega)
      · skip
        have hyb : ¬ y2 = 0 := c553
        refine r_lconst (v := 1) g dL_law_556 (by decide) ?_
        refine r_goto 561 g dL_law_557 (by decide) ?_
        refine r_lcmp g dL_law_561 ?_
        refine r_if_eq 567 g dL_law_562 (by decide) (fun c562 => ?_) (fun c562 => absurd ((lg_cmp_eq _ _).mpr (by rw [hov2, ← hy3]; exact (if_neg hyb))) c562)
        refine r_goto 1081 g dL_law_567 (by decide) ?_
        refine r_le (ls2 := [some (.ref b), some (.ref x), some (.ref (x + 17)), some (.ref (x + 42)), some (.int (nI i)), none, none]) ⟨rfl, rfl, rfl, rfl, rfl, trivial⟩ ?_
        exact hback (sUrgent s (xs (i + 1)) true).2.2 r h2 nx1 _ _ ⟨(AI_Urgent hA (xs (i + 1)) true), hC1.ext (fun q hq => hM2.2 q (by omega)) (Nat.le_refl _), (RN_up hRN (N_Urgent s (xs (i + 1)) true)), ⟨F2, A2, B, hM2.1, hI2, hMG.same hSG⟩, f1, (hM2.2 _ (by omega)).trans ho1⟩ hnx1 (by omega) (by omega)
set_option maxHeartbeats 4000000 in
set_option maxRecDepth 100000 in
theorem law_begin {k : Cx} {b L : Nat} {xs : Nat → Int32} (g : Gd k RL cL_law) (hx : XS k b L xs) (hL : L ≤ 2049) (hR : RmK k 2000 601024 7293000) (hl : (cL k).stackTraces = false) {x i c0 s0 : Nat} (hbx : cBase k ≤ x) (hc0 : c0 ≤ 3000) (hs0 : s0 ≤ 600000) (hi : i + 3 < L) {s : AS} {r : GR} {h : Hp} {nx : Nat} (hnx : cBase k ≤ nx) (hLI : LI h nx x s r) (hback : ∀ (s : AS) (r : GR) (h : Hp) (nx c s9 : Nat), LI h nx x s r → cBase k ≤ nx → c ≤ c0 + 4 → s9 ≤ s0 + 909 → Sf k c s9 h nx 1081 [some (.ref b), some (.ref x), some (.ref (x + 17)), some (.ref (x + 42)), some (.int (nI i)), none, none] []) : Sf k c0 s0 h nx 570 [some (.ref b), some (.ref x), some (.ref (x + 17)), some (.ref (x + 42)), some (.int (nI i)), none, none] [] := by
  obtain ⟨hA, hC, hRN, ⟨F, A, B, hM, hI, hMG⟩, f9, ho⟩ := hLI
  have hln := hC.obj.2.2
  refine r_aload_n g dL_law_570 rfl ?_
  refine r_aload_n g dL_law_571 rfl ?_
  refine r_iload g dL_law_572 rfl ?_
  refine r_iconst (v := 1) g dL_law_574 (by decide) ?_
  refine r_iadd g dL_law_575 ?_
  refine r_topi (y := (nI (i + 1))) (nI_add i 1) ?_
  refine r_sld (j := i + 1) g hx rfl (by omega) (by omega) dL_law_576 ?_
  refine r_aload_n g dL_law_577 rfl ?_
  refine r_iload g dL_law_578 rfl ?_
  refine r_iconst (v := 2) g dL_law_580 (by decide) ?_
  refine r_iadd g dL_law_581 ?_
  refine r_topi (y := (nI (i + 2))) (nI_add i 2) ?_
  refine r_sld (j := i + 2) g hx rfl (by omega) (by omega) dL_law_582 ?_
  refine r_aload_n g dL_law_583 rfl ?_
  refine r_callC g kcL_97 (ok_l_begin _ _ _ _ hl (r := r) hA hC hbx ho (by omega) (by omega) (xs (i + 1)) (xs (i + 2))) rfl rfl hnx hR (by decide) (by omega) (by omega) rfl rfl dL_law_584 ?_
  rintro v9 h1 nx1 ⟨rfl, hC1, hFr, f1, ho1, hov⟩ hle
  have hM1 : MO h1 (x + 17) F A B := hM.fr (fun q a1 a2 => hFr q (Or.inr ⟨by omega, by omega⟩) (by omega))
  have hnx1 : cBase k ≤ nx1 := Nat.le_trans hnx hle
  refine r_istore g dL_law_587 rfl rfl rfl ?_
  refine r_aload_n g dL_law_589 rfl ?_
  refine r_aload_n g dL_law_590 rfl ?_
  refine r_iload g dL_law_591 rfl ?_
  refine r_iconst (v := 1) g dL_law_593 (by decide) ?_
  refine r_iadd g dL_law_594 ?_
  refine r_topi (y := (nI (i + 1))) (nI_add i 1) ?_
  refine r_sld (j := i + 1) g hx rfl (by omega) (by omega) dL_law_595 ?_
  refine r_aload_n g dL_law_596 rfl ?_
  refine r_iload g dL_law_597 rfl ?_
  refine r_iconst (v := 2) g dL_law_599 (by decide) ?_
  refine r_iadd g dL_law_600 ?_
  refine r_topi (y := (nI (i + 2))) (nI_add i 2) ?_
  refine r_sld (j := i + 2) g hx rfl (by omega) (by omega) dL_law_601 ?_
  refine r_callV g kL_99 (ok_m_begin _ _ _ _ s hA hI hM1 (by omega) (xs (i + 1)) (xs (i + 2))) hM1.1 rfl rfl rfl hnx1 hR (by decide) (by omega) (by omega) rfl rfl dL_law_602 ?_
  rintro v9 h2 nx2 ⟨rfl, hv2, F2, A2, hM2, hI2, hF2, hSG⟩ -
  obtain ⟨y2, hv3, hy2⟩ : ∃ y, v9 = some (.int y) ∧ ((sBegin s (xs (i + 1)) (xs (i + 2))).1 = 0 → y = (sBegin s (xs (i + 1)) (xs (i + 2))).2.1) := hv2
  subst hv3
  refine r_istore g dL_law_605 rfl rfl rfl ?_
  refine r_aload_n g dL_law_607 rfl ?_
  refine r_pV g kL_76 (ok_m_thrown _ _ _ _ hM2.1) hM2.1.1 rfl rfl rfl hnx1 hR (by decide) (by omega) (by omega) rfl rfl dL_law_608 ?_
  refine r_topi (y := (nI ((sBegin s (xs (i + 1)) (xs (i + 2))).1))) hF2 ?_
  refine r_iload g dL_law_611 rfl ?_
  refine r_icmp_eq 618 g dL_law_613 (by decide) (fun c613 => ?_) (fun c613 => absurd rfl c613)
  refine r_iload g dL_law_618 rfl ?_
  refine r_if_ne 642 g dL_law_620 (by decide) (fun c620 => ?_) (fun c620 => ?_)
  · skip
    refine r_goto 1081 g dL_law_642 (by decide) ?_
    refine r_le (ls2 := [some (.ref b), some (.ref x), some (.ref (x + 17)), some (.ref (x + 42)), some (.int (nI i)), none, none]) ⟨rfl, rfl, rfl, rfl, rfl, trivial⟩ ?_
    exact hback (sBegin s (xs (i + 1)) (xs (i + 2))).2.2 r h2 nx1 _ _ ⟨(AI_Begin hA (xs (i + 1)) (xs (i + 2))), hC1.ext (fun q hq => hM2.2 q (by omega)) (Nat.le_refl _), (RN_up hRN (N_Begin s (xs (i + 1)) (xs (i + 2)))), ⟨F2, A2, B, hM2.1, hI2, hMG.same hSG⟩, f1, (hM2.2 _ (by omega)).trans ho1⟩ hnx1 (by omega) (by omega)
  · skip
    have hz : (sBegin s (xs (i + 1)) (xs (i + 2))).1 = 0 := eq0 (by have := le2_Begin s (xs (i + 1)) (xs (i + 2)); omega) c620
    have hov2 := hov hz
    have hy3 := hy2 hz
    refine r_aload_n g dL_law_623 rfl ?_
    refine r_iconst (v := 0) g dL_law_624 (by decide) ?_
    refine r_lald (j := 0) g ((hM2.2 _ (by omega)).trans ho1) rfl (by decide) (by decide) dL_law_625 ?_
    refine r_iload g dL_law_626 rfl ?_
    refine r_if_eq 635 g dL_law_628 (by decide) (fun c628 => ?_) (fun c628 => ?_)
    · skip
      have hyb : y2 = 0 := c628
      refine r_lconst (v := 0) g dL_law_635 (by decide) ?_
      refine r_lcmp g dL_law_636 ?_
      refine r_if_eq 642 g dL_law_637 (by decide) (fun c637 => ?_) (fun c637 => absurd ((lg_cmp_eq _ _).mpr (by rw [hov2, ← hy3]; exact (if_pos hyb))) c637)
      refine r_goto 1081 g dL_law_642 (by decide) ?_
      refine r_le (ls2 := [some (.ref b), some (.ref x), some (.ref (x + 17)), some (.ref (x + 42)), some (.int (nI i)), none, none]) ⟨rfl, rfl, rfl, rfl, rfl, trivial⟩ ?_
      exact hback (sBegin s (xs (i + 1)) (xs (i + 2))).2.2 r h2 nx1 _ _ ⟨(AI_Begin hA (xs (i + 1)) (xs (i + 2))), hC1.ext (fun q hq => hM2.2 q (by omega)) (Nat.le_refl _), (RN_up hRN (N_Begin s (xs (i + 1)) (xs (i + 2)))), ⟨F2, A2, B, hM2.1, hI2, hMG.same hSG⟩, f1, (hM2.2 _ (by omega)).trans ho1⟩ hnx1 (by omega) (by omega)
    · skip
      have hyb : ¬ y2 = 0 := c628
      refine r_lconst (v := 1) g dL_law_631 (by decide) ?_
      refine r_goto 636 g dL_law_632 (by decide) ?_
      refine r_lcmp g dL_law_636 ?_
      refine r_if_eq 642 g dL_law_637 (by decide) (fun c637 => ?_) (fun c637 => absurd ((lg_cmp_eq _ _).mpr (by rw [hov2, ← hy3]; exact (if_neg hyb))) c637)
      refine r_goto 1081 g dL_law_642 (by decide) ?_
      refine r_le (ls2 := [some (.ref b), some (.ref x), some (.ref (x + 17)), some (.ref (x + 42)), some (.int (nI i)), none, none]) ⟨rfl, rfl, rfl, rfl, rfl, trivial⟩ ?_
      exact hback (sBegin s (xs (i + 1)) (xs (i + 2))).2.2 r h2 nx1 _ _ ⟨(AI_Begin hA (xs (i + 1)) (xs (i + 2))), hC1.ext (fun q hq => hM2.2 q (by omega)) (Nat.le_refl _), (RN_up hRN (N_Begin s (xs (i + 1)) (xs (i + 2)))), ⟨F2, A2, B, hM2.1, hI2, hMG.same hSG⟩, f1, (hM2.2 _ (by omega)).trans ho1⟩ hnx1 (by omega) (by omega)
set_option maxHeartbeats 4000000 in
set_option maxRecDepth 100000 in
theorem law_done {k : Cx} {b L : Nat} {xs : Nat → Int32} (g : Gd k RL cL_law) (hx : XS k b L xs) (hL : L ≤ 2049) (hR : RmK k 2000 601024 7293000) (hl : (cL k).stackTraces = false) {x i c0 s0 : Nat} (hbx : cBase k ≤ x) (hc0 : c0 ≤ 3000) (hs0 : s0 ≤ 600000) (hi : i + 3 < L) {s : AS} {r : GR} {h : Hp} {nx : Nat} (hnx : cBase k ≤ nx) (hLI : LI h nx x s r) (hback : ∀ (s : AS) (r : GR) (h : Hp) (nx c s9 : Nat), LI h nx x s r → cBase k ≤ nx → c ≤ c0 + 4 → s9 ≤ s0 + 909 → Sf k c s9 h nx 1081 [some (.ref b), some (.ref x), some (.ref (x + 17)), some (.ref (x + 42)), some (.int (nI i)), none, none] []) : Sf k c0 s0 h nx 645 [some (.ref b), some (.ref x), some (.ref (x + 17)), some (.ref (x + 42)), some (.int (nI i)), none, none] [] := by
  obtain ⟨hA, hC, hRN, ⟨F, A, B, hM, hI, hMG⟩, f9, ho⟩ := hLI
  have hln := hC.obj.2.2
  refine r_aload_n g dL_law_645 rfl ?_
  refine r_aload_n g dL_law_646 rfl ?_
  refine r_iload g dL_law_647 rfl ?_
  refine r_iconst (v := 1) g dL_law_649 (by decide) ?_
  refine r_iadd g dL_law_650 ?_
  refine r_topi (y := (nI (i + 1))) (nI_add i 1) ?_
  refine r_sld (j := i + 1) g hx rfl (by omega) (by omega) dL_law_651 ?_
  refine r_callC g kcL_100 (ok_l_done _ _ _ _ hl (r := r) (o := 0) hA hC hbx (xs (i + 1))) rfl rfl hnx hR (by decide) (by omega) (by omega) rfl rfl dL_law_652 ?_
  rintro v9 h1 nx1 ⟨rfl, hC1, hFr⟩ hle
  have ho1 := (hFr (x + 42) (Or.inr ⟨by omega, by omega⟩)).trans ho
  have hM1 : MO h1 (x + 17) F A B := hM.fr (fun q a1 a2 => hFr q (Or.inr ⟨by omega, by omega⟩))
  have hnx1 : cBase k ≤ nx1 := Nat.le_trans hnx hle
  refine r_istore g dL_law_655 rfl rfl rfl ?_
  refine r_aload_n g dL_law_657 rfl ?_
  refine r_aload_n g dL_law_658 rfl ?_
  refine r_iload g dL_law_659 rfl ?_
  refine r_iconst (v := 1) g dL_law_661 (by decide) ?_
  refine r_iadd g dL_law_662 ?_
  refine r_topi (y := (nI (i + 1))) (nI_add i 1) ?_
  refine r_sld (j := i + 1) g hx rfl (by omega) (by omega) dL_law_663 ?_
  refine r_callV g kL_103 (ok_m_done _ _ _ _ s hA hI hM1 (by omega) (xs (i + 1))) hM1.1 rfl rfl rfl hnx1 hR (by decide) (by omega) (by omega) rfl rfl dL_law_664 ?_
  rintro v9 h2 nx2 ⟨rfl, hv2, F2, A2, hM2, hI2, hF2, hSG⟩ -
  have hv3 : v9 = none := hv2
  subst hv3
  refine r_aload_n g dL_law_667 rfl ?_
  refine r_pV g kL_76 (ok_m_thrown _ _ _ _ hM2.1) hM2.1.1 rfl rfl rfl hnx1 hR (by decide) (by omega) (by omega) rfl rfl dL_law_668 ?_
  refine r_topi (y := (nI ((sDone s (xs (i + 1))).1))) hF2 ?_
  refine r_iload g dL_law_671 rfl ?_
  refine r_icmp_eq 678 g dL_law_673 (by decide) (fun c673 => ?_) (fun c673 => absurd rfl c673)
  refine r_goto 1081 g dL_law_678 (by decide) ?_
  refine r_le (ls2 := [some (.ref b), some (.ref x), some (.ref (x + 17)), some (.ref (x + 42)), some (.int (nI i)), none, none]) ⟨rfl, rfl, rfl, rfl, rfl, trivial⟩ ?_
  exact hback (sDone s (xs (i + 1))).2.2 r h2 nx1 _ _ ⟨(AI_Done hA (xs (i + 1))), hC1.ext (fun q hq => hM2.2 q (by omega)) (Nat.le_refl _), (RN_up hRN (N_Done s (xs (i + 1)))), ⟨F2, A2, B, hM2.1, hI2, hMG.same hSG⟩, f9, (hM2.2 _ (by omega)).trans ho1⟩ hnx1 (by omega) (by omega)
set_option maxHeartbeats 4000000 in
set_option maxRecDepth 100000 in
theorem law_pass {k : Cx} {b L : Nat} {xs : Nat → Int32} (g : Gd k RL cL_law) (hx : XS k b L xs) (hL : L ≤ 2049) (hR : RmK k 2000 601024 7293000) (hl : (cL k).stackTraces = false) {x i c0 s0 : Nat} (hbx : cBase k ≤ x) (hc0 : c0 ≤ 3000) (hs0 : s0 ≤ 600000) (hi : i + 3 < L) {s : AS} {r : GR} {h : Hp} {nx : Nat} (hnx : cBase k ≤ nx) (hLI : LI h nx x s r) (hback : ∀ (s : AS) (r : GR) (h : Hp) (nx c s9 : Nat), LI h nx x s r → cBase k ≤ nx → c ≤ c0 + 4 → s9 ≤ s0 + 909 → Sf k c s9 h nx 1081 [some (.ref b), some (.ref x), some (.ref (x + 17)), some (.ref (x + 42)), some (.int (nI i)), none, none] []) : Sf k c0 s0 h nx 681 [some (.ref b), some (.ref x), some (.ref (x + 17)), some (.ref (x + 42)), some (.int (nI i)), none, none] [] := by
  obtain ⟨hA, hC, hRN, ⟨F, A, B, hM, hI, hMG⟩, f9, ho⟩ := hLI
  have hln := hC.obj.2.2
  refine r_aload_n g dL_law_681 rfl ?_
  refine r_aload_n g dL_law_682 rfl ?_
  refine r_iload g dL_law_683 rfl ?_
  refine r_iconst (v := 1) g dL_law_685 (by decide) ?_
  refine r_iadd g dL_law_686 ?_
  refine r_topi (y := (nI (i + 1))) (nI_add i 1) ?_
  refine r_sld (j := i + 1) g hx rfl (by omega) (by omega) dL_law_687 ?_
  refine r_aload_n g dL_law_688 rfl ?_
  refine r_callC g kcL_104 (ok_l_pass _ _ _ _ hl (r := r) hA hC hbx ho (by omega) (by omega) (xs (i + 1))) rfl rfl hnx hR (by decide) (by omega) (by omega) rfl rfl dL_law_689 ?_
  rintro v9 h1 nx1 ⟨rfl, hC1, hFr, f1, ho1, hov⟩ hle
  have hM1 : MO h1 (x + 17) F A B := hM.fr (fun q a1 a2 => hFr q (Or.inr ⟨by omega, by omega⟩) (by omega))
  have hnx1 : cBase k ≤ nx1 := Nat.le_trans hnx hle
  refine r_istore g dL_law_692 rfl rfl rfl ?_
  refine r_aload_n g dL_law_694 rfl ?_
  refine r_aload_n g dL_law_695 rfl ?_
  refine r_iload g dL_law_696 rfl ?_
  refine r_iconst (v := 1) g dL_law_698 (by decide) ?_
  refine r_iadd g dL_law_699 ?_
  refine r_topi (y := (nI (i + 1))) (nI_add i 1) ?_
  refine r_sld (j := i + 1) g hx rfl (by omega) (by omega) dL_law_700 ?_
  refine r_callV g kL_107 (ok_m_pass _ _ _ _ s hA hI hM1 (by omega) (xs (i + 1))) hM1.1 rfl rfl rfl hnx1 hR (by decide) (by omega) (by omega) rfl rfl dL_law_701 ?_
  rintro v9 h2 nx2 ⟨rfl, hv2, F2, A2, hM2, hI2, hF2, hSG⟩ -
  obtain ⟨y2, hv3, hy2⟩ : ∃ y, v9 = some (.int y) ∧ ((sPass s (xs (i + 1))).1 = 0 → y = (sPass s (xs (i + 1))).2.1) := hv2
  subst hv3
  refine r_istore g dL_law_704 rfl rfl rfl ?_
  refine r_aload_n g dL_law_706 rfl ?_
  refine r_pV g kL_76 (ok_m_thrown _ _ _ _ hM2.1) hM2.1.1 rfl rfl rfl hnx1 hR (by decide) (by omega) (by omega) rfl rfl dL_law_707 ?_
  refine r_topi (y := (nI ((sPass s (xs (i + 1))).1))) hF2 ?_
  refine r_iload g dL_law_710 rfl ?_
  refine r_icmp_eq 717 g dL_law_712 (by decide) (fun c712 => ?_) (fun c712 => absurd rfl c712)
  refine r_iload g dL_law_717 rfl ?_
  refine r_if_ne 734 g dL_law_719 (by decide) (fun c719 => ?_) (fun c719 => ?_)
  · skip
    refine r_goto 1081 g dL_law_734 (by decide) ?_
    refine r_le (ls2 := [some (.ref b), some (.ref x), some (.ref (x + 17)), some (.ref (x + 42)), some (.int (nI i)), none, none]) ⟨rfl, rfl, rfl, rfl, rfl, trivial⟩ ?_
    exact hback (sPass s (xs (i + 1))).2.2 r h2 nx1 _ _ ⟨(AI_Pass hA (xs (i + 1))), hC1.ext (fun q hq => hM2.2 q (by omega)) (Nat.le_refl _), (RN_up hRN (N_Pass s (xs (i + 1)))), ⟨F2, A2, B, hM2.1, hI2, hMG.same hSG⟩, f1, (hM2.2 _ (by omega)).trans ho1⟩ hnx1 (by omega) (by omega)
  · skip
    have hz : (sPass s (xs (i + 1))).1 = 0 := eq0 (by have := le2_Pass s (xs (i + 1)); omega) c719
    have hov2 := hov hz
    have hy3 := hy2 hz
    refine r_aload_n g dL_law_722 rfl ?_
    refine r_iconst (v := 0) g dL_law_723 (by decide) ?_
    refine r_lald (j := 0) g ((hM2.2 _ (by omega)).trans ho1) rfl (by decide) (by decide) dL_law_724 ?_
    refine r_iload g dL_law_725 rfl ?_
    refine r_i2l g dL_law_727 ?_
    refine r_lcmp g dL_law_728 ?_
    refine r_if_eq 734 g dL_law_729 (by decide) (fun c729 => ?_) (fun c729 => absurd ((lg_cmp_eq _ _).mpr (by rw [hov2, ← hy3]; rfl)) c729)
    refine r_goto 1081 g dL_law_734 (by decide) ?_
    refine r_le (ls2 := [some (.ref b), some (.ref x), some (.ref (x + 17)), some (.ref (x + 42)), some (.int (nI i)), none, none]) ⟨rfl, rfl, rfl, rfl, rfl, trivial⟩ ?_
    exact hback (sPass s (xs (i + 1))).2.2 r h2 nx1 _ _ ⟨(AI_Pass hA (xs (i + 1))), hC1.ext (fun q hq => hM2.2 q (by omega)) (Nat.le_refl _), (RN_up hRN (N_Pass s (xs (i + 1)))), ⟨F2, A2, B, hM2.1, hI2, hMG.same hSG⟩, f1, (hM2.2 _ (by omega)).trans ho1⟩ hnx1 (by omega) (by omega)
set_option maxHeartbeats 4000000 in
set_option maxRecDepth 100000 in
theorem law_give {k : Cx} {b L : Nat} {xs : Nat → Int32} (g : Gd k RL cL_law) (hx : XS k b L xs) (hL : L ≤ 2049) (hR : RmK k 2000 601024 7293000) (hl : (cL k).stackTraces = false) {x i c0 s0 : Nat} (hbx : cBase k ≤ x) (hc0 : c0 ≤ 3000) (hs0 : s0 ≤ 600000) (hi : i + 3 < L) {s : AS} {r : GR} {h : Hp} {nx : Nat} (hnx : cBase k ≤ nx) (hLI : LI h nx x s r) (hback : ∀ (s : AS) (r : GR) (h : Hp) (nx c s9 : Nat), LI h nx x s r → cBase k ≤ nx → c ≤ c0 + 4 → s9 ≤ s0 + 909 → Sf k c s9 h nx 1081 [some (.ref b), some (.ref x), some (.ref (x + 17)), some (.ref (x + 42)), some (.int (nI i)), none, none] []) : Sf k c0 s0 h nx 737 [some (.ref b), some (.ref x), some (.ref (x + 17)), some (.ref (x + 42)), some (.int (nI i)), none, none] [] := by
  obtain ⟨hA, hC, hRN, ⟨F, A, B, hM, hI, hMG⟩, f9, ho⟩ := hLI
  have hln := hC.obj.2.2
  refine r_aload_n g dL_law_737 rfl ?_
  refine r_callV g kL_108 (ok_c_give _ _ _ _ hA hC hbx) hC.obj.1 rfl rfl rfl hnx hR (by decide) (by omega) (by omega) rfl rfl dL_law_738 ?_
  rintro v9 h1 nx1 ⟨rfl, rfl, hC1, hFr⟩ -
  have ho1 := (hFr (x + 42) (Or.inr ⟨by omega, by omega⟩)).trans ho
  have hM1 : MO h1 (x + 17) F A B := hM.fr (fun q a1 a2 => hFr q (Or.inr ⟨by omega, by omega⟩))
  refine r_aload_n g dL_law_741 rfl ?_
  refine r_callV g kL_112 (ok_m_give _ _ _ _ s hA hI (fun j h3 h4 => (hMG.1 j h4).1.trans (by rw [hRN j h3]; rfl)) hM1 (by omega)) hM1.1 rfl rfl rfl hnx hR (by decide) (by omega) (by omega) rfl rfl dL_law_742 ?_
  rintro v9 h2 nx2 ⟨rfl, rfl, F2, A2, B2, hM2, hI2, hF2, hG2⟩ -
  refine r_lcmp g dL_law_745 ?_
  refine r_if_eq 1081 g dL_law_746 (by decide) (fun c746 => ?_) (fun c746 => absurd ((lg_cmp_eq _ _).mpr rfl) c746)
  refine r_le (ls2 := [some (.ref b), some (.ref x), some (.ref (x + 17)), some (.ref (x + 42)), some (.int (nI i)), none, none]) ⟨rfl, rfl, rfl, rfl, rfl, trivial⟩ ?_
  exact hback s (gres s) h2 nx _ _ ⟨hA, hC1.ext (fun q hq => hM2.2 q (by omega)) (Nat.le_refl _), RN_gres s, ⟨F2, A2, B2, hM2.1, hI2, hG2⟩, f9, (hM2.2 _ (by omega)).trans ho1⟩ hnx (by omega) (by omega)
set_option maxHeartbeats 4000000 in
set_option maxRecDepth 100000 in
theorem law_carOf {k : Cx} {b L : Nat} {xs : Nat → Int32} (g : Gd k RL cL_law) (hx : XS k b L xs) (hL : L ≤ 2049) (hR : RmK k 2000 601024 7293000) (hl : (cL k).stackTraces = false) {x i c0 s0 : Nat} (hbx : cBase k ≤ x) (hc0 : c0 ≤ 3000) (hs0 : s0 ≤ 600000) (hi : i + 3 < L) {s : AS} {r : GR} {h : Hp} {nx : Nat} (hnx : cBase k ≤ nx) (hLI : LI h nx x s r) (hback : ∀ (s : AS) (r : GR) (h : Hp) (nx c s9 : Nat), LI h nx x s r → cBase k ≤ nx → c ≤ c0 + 4 → s9 ≤ s0 + 909 → Sf k c s9 h nx 1081 [some (.ref b), some (.ref x), some (.ref (x + 17)), some (.ref (x + 42)), some (.int (nI i)), none, none] []) : Sf k c0 s0 h nx 751 [some (.ref b), some (.ref x), some (.ref (x + 17)), some (.ref (x + 42)), some (.int (nI i)), none, none] [] := by
  obtain ⟨hA, hC, hRN, ⟨F, A, B, hM, hI, hMG⟩, f9, ho⟩ := hLI
  have hln := hC.obj.2.2
  refine r_aload_n g dL_law_751 rfl ?_
  refine r_aload_n g dL_law_752 rfl ?_
  refine r_iload g dL_law_753 rfl ?_
  refine r_iconst (v := 1) g dL_law_755 (by decide) ?_
  refine r_iadd g dL_law_756 ?_
  refine r_topi (y := (nI (i + 1))) (nI_add i 1) ?_
  refine r_sld (j := i + 1) g hx rfl (by omega) (by omega) dL_law_757 ?_
  refine r_aload_n g dL_law_758 rfl ?_
  refine r_callC g kcL_113 (ok_l_carOf _ _ _ _ hl (r := r) hA hC hbx ho (by omega) (by omega) (xs (i + 1))) rfl rfl hnx hR (by decide) (by omega) (by omega) rfl rfl dL_law_759 ?_
  rintro v9 h1 nx1 ⟨rfl, hC1, hFr, f1, ho1, hov⟩ hle
  have hM1 : MO h1 (x + 17) F A B := hM.fr (fun q a1 a2 => hFr q (Or.inr ⟨by omega, by omega⟩) (by omega))
  have hnx1 : cBase k ≤ nx1 := Nat.le_trans hnx hle
  refine r_istore g dL_law_762 rfl rfl rfl ?_
  refine r_aload_n g dL_law_764 rfl ?_
  refine r_aload_n g dL_law_765 rfl ?_
  refine r_iload g dL_law_766 rfl ?_
  refine r_iconst (v := 1) g dL_law_768 (by decide) ?_
  refine r_iadd g dL_law_769 ?_
  refine r_topi (y := (nI (i + 1))) (nI_add i 1) ?_
  refine r_sld (j := i + 1) g hx rfl (by omega) (by omega) dL_law_770 ?_
  refine r_callV g kL_115 (ok_m_carOf _ _ _ _ s hA hI hM1 (by omega) r hMG (xs (i + 1))) hM1.1 rfl rfl rfl hnx1 hR (by decide) (by omega) (by omega) rfl rfl dL_law_771 ?_
  rintro v9 h2 nx2 ⟨rfl, hv2, F2, A2, hM2, hI2, hF2, hSG⟩ -
  obtain ⟨y2, hv3, hy2⟩ : ∃ y, v9 = some (.int y) ∧ ((sCarOf s r (xs (i + 1))).1 = 0 → y = (sCarOf s r (xs (i + 1))).2) := hv2
  subst hv3
  refine r_istore g dL_law_774 rfl rfl rfl ?_
  refine r_aload_n g dL_law_776 rfl ?_
  refine r_pV g kL_76 (ok_m_thrown _ _ _ _ hM2.1) hM2.1.1 rfl rfl rfl hnx1 hR (by decide) (by omega) (by omega) rfl rfl dL_law_777 ?_
  refine r_topi (y := (nI ((sCarOf s r (xs (i + 1))).1))) hF2 ?_
  refine r_iload g dL_law_780 rfl ?_
  refine r_icmp_eq 787 g dL_law_782 (by decide) (fun c782 => ?_) (fun c782 => absurd rfl c782)
  refine r_iload g dL_law_787 rfl ?_
  refine r_if_ne 804 g dL_law_789 (by decide) (fun c789 => ?_) (fun c789 => ?_)
  · skip
    refine r_goto 1081 g dL_law_804 (by decide) ?_
    refine r_le (ls2 := [some (.ref b), some (.ref x), some (.ref (x + 17)), some (.ref (x + 42)), some (.int (nI i)), none, none]) ⟨rfl, rfl, rfl, rfl, rfl, trivial⟩ ?_
    exact hback s r h2 nx1 _ _ ⟨hA, hC1.ext (fun q hq => hM2.2 q (by omega)) (Nat.le_refl _), hRN, ⟨F2, A2, B, hM2.1, hI2, hMG.same hSG⟩, f1, (hM2.2 _ (by omega)).trans ho1⟩ hnx1 (by omega) (by omega)
  · skip
    have hz : (sCarOf s r (xs (i + 1))).1 = 0 := eq0 (by have := le2_CarOf s r (xs (i + 1)); omega) c789
    have hov2 := hov hz
    have hy3 := hy2 hz
    refine r_aload_n g dL_law_792 rfl ?_
    refine r_iconst (v := 0) g dL_law_793 (by decide) ?_
    refine r_lald (j := 0) g ((hM2.2 _ (by omega)).trans ho1) rfl (by decide) (by decide) dL_law_794 ?_
    refine r_iload g dL_law_795 rfl ?_
    refine r_i2l g dL_law_797 ?_
    refine r_lcmp g dL_law_798 ?_
    refine r_if_eq 804 g dL_law_799 (by decide) (fun c799 => ?_) (fun c799 => absurd ((lg_cmp_eq _ _).mpr (by rw [hov2, ← hy3]; rfl)) c799)
    refine r_goto 1081 g dL_law_804 (by decide) ?_
    refine r_le (ls2 := [some (.ref b), some (.ref x), some (.ref (x + 17)), some (.ref (x + 42)), some (.int (nI i)), none, none]) ⟨rfl, rfl, rfl, rfl, rfl, trivial⟩ ?_
    exact hback s r h2 nx1 _ _ ⟨hA, hC1.ext (fun q hq => hM2.2 q (by omega)) (Nat.le_refl _), hRN, ⟨F2, A2, B, hM2.1, hI2, hMG.same hSG⟩, f1, (hM2.2 _ (by omega)).trans ho1⟩ hnx1 (by omega) (by omega)
set_option maxHeartbeats 4000000 in
set_option maxRecDepth 100000 in
theorem law_turn {k : Cx} {b L : Nat} {xs : Nat → Int32} (g : Gd k RL cL_law) (hx : XS k b L xs) (hL : L ≤ 2049) (hR : RmK k 2000 601024 7293000) (hl : (cL k).stackTraces = false) {x i c0 s0 : Nat} (hbx : cBase k ≤ x) (hc0 : c0 ≤ 3000) (hs0 : s0 ≤ 600000) (hi : i + 3 < L) {s : AS} {r : GR} {h : Hp} {nx : Nat} (hnx : cBase k ≤ nx) (hLI : LI h nx x s r) (hback : ∀ (s : AS) (r : GR) (h : Hp) (nx c s9 : Nat), LI h nx x s r → cBase k ≤ nx → c ≤ c0 + 4 → s9 ≤ s0 + 909 → Sf k c s9 h nx 1081 [some (.ref b), some (.ref x), some (.ref (x + 17)), some (.ref (x + 42)), some (.int (nI i)), none, none] []) : Sf k c0 s0 h nx 807 [some (.ref b), some (.ref x), some (.ref (x + 17)), some (.ref (x + 42)), some (.int (nI i)), none, none] [] := by
  obtain ⟨hA, hC, hRN, ⟨F, A, B, hM, hI, hMG⟩, f9, ho⟩ := hLI
  have hln := hC.obj.2.2
  refine r_aload_n g dL_law_807 rfl ?_
  refine r_aload_n g dL_law_808 rfl ?_
  refine r_iload g dL_law_809 rfl ?_
  refine r_iconst (v := 1) g dL_law_811 (by decide) ?_
  refine r_iadd g dL_law_812 ?_
  refine r_topi (y := (nI (i + 1))) (nI_add i 1) ?_
  refine r_sld (j := i + 1) g hx rfl (by omega) (by omega) dL_law_813 ?_
  refine r_aload_n g dL_law_814 rfl ?_
  refine r_iload g dL_law_815 rfl ?_
  refine r_iconst (v := 2) g dL_law_817 (by decide) ?_
  refine r_iadd g dL_law_818 ?_
  refine r_topi (y := (nI (i + 2))) (nI_add i 2) ?_
  refine r_sld (j := i + 2) g hx rfl (by omega) (by omega) dL_law_819 ?_
  refine r_aload_n g dL_law_820 rfl ?_
  refine r_callC g kcL_116 (ok_l_turn _ _ _ _ hl (r := r) hA hC hbx ho (by omega) (by omega) (xs (i + 1)) (xs (i + 2))) rfl rfl hnx hR (by decide) (by omega) (by omega) rfl rfl dL_law_821 ?_
  rintro v9 h1 nx1 ⟨rfl, hC1, hFr, f1, ho1, hov⟩ hle
  have hM1 : MO h1 (x + 17) F A B := hM.fr (fun q a1 a2 => hFr q (Or.inr ⟨by omega, by omega⟩) (by omega))
  have hnx1 : cBase k ≤ nx1 := Nat.le_trans hnx hle
  refine r_istore g dL_law_824 rfl rfl rfl ?_
  refine r_aload_n g dL_law_826 rfl ?_
  refine r_aload_n g dL_law_827 rfl ?_
  refine r_iload g dL_law_828 rfl ?_
  refine r_iconst (v := 1) g dL_law_830 (by decide) ?_
  refine r_iadd g dL_law_831 ?_
  refine r_topi (y := (nI (i + 1))) (nI_add i 1) ?_
  refine r_sld (j := i + 1) g hx rfl (by omega) (by omega) dL_law_832 ?_
  refine r_aload_n g dL_law_833 rfl ?_
  refine r_iload g dL_law_834 rfl ?_
  refine r_iconst (v := 2) g dL_law_836 (by decide) ?_
  refine r_iadd g dL_law_837 ?_
  refine r_topi (y := (nI (i + 2))) (nI_add i 2) ?_
  refine r_sld (j := i + 2) g hx rfl (by omega) (by omega) dL_law_838 ?_
  refine r_callV g kL_118 (ok_m_turn _ _ _ _ s hA hI hM1 (by omega) r hMG (xs (i + 1)) (xs (i + 2))) hM1.1 rfl rfl rfl hnx1 hR (by decide) (by omega) (by omega) rfl rfl dL_law_839 ?_
  rintro v9 h2 nx2 ⟨rfl, hv2, F2, A2, hM2, hI2, hF2, hSG⟩ -
  obtain ⟨y2, hv3, hy2⟩ : ∃ y, v9 = some (.int y) ∧ ((sTurn s r (xs (i + 1)) (xs (i + 2))).1 = 0 → y = (sTurn s r (xs (i + 1)) (xs (i + 2))).2) := hv2
  subst hv3
  refine r_istore g dL_law_842 rfl rfl rfl ?_
  refine r_aload_n g dL_law_844 rfl ?_
  refine r_pV g kL_76 (ok_m_thrown _ _ _ _ hM2.1) hM2.1.1 rfl rfl rfl hnx1 hR (by decide) (by omega) (by omega) rfl rfl dL_law_845 ?_
  refine r_topi (y := (nI ((sTurn s r (xs (i + 1)) (xs (i + 2))).1))) hF2 ?_
  refine r_iload g dL_law_848 rfl ?_
  refine r_icmp_eq 855 g dL_law_850 (by decide) (fun c850 => ?_) (fun c850 => absurd rfl c850)
  refine r_iload g dL_law_855 rfl ?_
  refine r_if_ne 872 g dL_law_857 (by decide) (fun c857 => ?_) (fun c857 => ?_)
  · skip
    refine r_goto 1081 g dL_law_872 (by decide) ?_
    refine r_le (ls2 := [some (.ref b), some (.ref x), some (.ref (x + 17)), some (.ref (x + 42)), some (.int (nI i)), none, none]) ⟨rfl, rfl, rfl, rfl, rfl, trivial⟩ ?_
    exact hback s r h2 nx1 _ _ ⟨hA, hC1.ext (fun q hq => hM2.2 q (by omega)) (Nat.le_refl _), hRN, ⟨F2, A2, B, hM2.1, hI2, hMG.same hSG⟩, f1, (hM2.2 _ (by omega)).trans ho1⟩ hnx1 (by omega) (by omega)
  · skip
    have hz : (sTurn s r (xs (i + 1)) (xs (i + 2))).1 = 0 := eq0 (by have := le2_Turn s r (xs (i + 1)) (xs (i + 2)); omega) c857
    have hov2 := hov hz
    have hy3 := hy2 hz
    refine r_aload_n g dL_law_860 rfl ?_
    refine r_iconst (v := 0) g dL_law_861 (by decide) ?_
    refine r_lald (j := 0) g ((hM2.2 _ (by omega)).trans ho1) rfl (by decide) (by decide) dL_law_862 ?_
    refine r_iload g dL_law_863 rfl ?_
    refine r_i2l g dL_law_865 ?_
    refine r_lcmp g dL_law_866 ?_
    refine r_if_eq 872 g dL_law_867 (by decide) (fun c867 => ?_) (fun c867 => absurd ((lg_cmp_eq _ _).mpr (by rw [hov2, ← hy3]; rfl)) c867)
    refine r_goto 1081 g dL_law_872 (by decide) ?_
    refine r_le (ls2 := [some (.ref b), some (.ref x), some (.ref (x + 17)), some (.ref (x + 42)), some (.int (nI i)), none, none]) ⟨rfl, rfl, rfl, rfl, rfl, trivial⟩ ?_
    exact hback s r h2 nx1 _ _ ⟨hA, hC1.ext (fun q hq => hM2.2 q (by omega)) (Nat.le_refl _), hRN, ⟨F2, A2, B, hM2.1, hI2, hMG.same hSG⟩, f1, (hM2.2 _ (by omega)).trans ho1⟩ hnx1 (by omega) (by omega)
set_option maxHeartbeats 4000000 in
set_option maxRecDepth 100000 in
theorem law_told {k : Cx} {b L : Nat} {xs : Nat → Int32} (g : Gd k RL cL_law) (hx : XS k b L xs) (hL : L ≤ 2049) (hR : RmK k 2000 601024 7293000) (hl : (cL k).stackTraces = false) {x i c0 s0 : Nat} (hbx : cBase k ≤ x) (hc0 : c0 ≤ 3000) (hs0 : s0 ≤ 600000) (hi : i + 3 < L) {s : AS} {r : GR} {h : Hp} {nx : Nat} (hnx : cBase k ≤ nx) (hLI : LI h nx x s r) (hback : ∀ (s : AS) (r : GR) (h : Hp) (nx c s9 : Nat), LI h nx x s r → cBase k ≤ nx → c ≤ c0 + 4 → s9 ≤ s0 + 909 → Sf k c s9 h nx 1081 [some (.ref b), some (.ref x), some (.ref (x + 17)), some (.ref (x + 42)), some (.int (nI i)), none, none] []) : Sf k c0 s0 h nx 875 [some (.ref b), some (.ref x), some (.ref (x + 17)), some (.ref (x + 42)), some (.int (nI i)), none, none] [] := by
  obtain ⟨hA, hC, hRN, ⟨F, A, B, hM, hI, hMG⟩, f9, ho⟩ := hLI
  have hln := hC.obj.2.2
  refine r_aload_n g dL_law_875 rfl ?_
  refine r_aload_n g dL_law_876 rfl ?_
  refine r_iload g dL_law_877 rfl ?_
  refine r_iconst (v := 1) g dL_law_879 (by decide) ?_
  refine r_iadd g dL_law_880 ?_
  refine r_topi (y := (nI (i + 1))) (nI_add i 1) ?_
  refine r_sld (j := i + 1) g hx rfl (by omega) (by omega) dL_law_881 ?_
  refine r_aload_n g dL_law_882 rfl ?_
  refine r_iload g dL_law_883 rfl ?_
  refine r_iconst (v := 2) g dL_law_885 (by decide) ?_
  refine r_iadd g dL_law_886 ?_
  refine r_topi (y := (nI (i + 2))) (nI_add i 2) ?_
  refine r_sld (j := i + 2) g hx rfl (by omega) (by omega) dL_law_887 ?_
  refine r_aload_n g dL_law_888 rfl ?_
  refine r_callC g kcL_119 (ok_l_told _ _ _ _ hl (r := r) hA hC hbx ho (by omega) (by omega) (xs (i + 1)) (xs (i + 2))) rfl rfl hnx hR (by decide) (by omega) (by omega) rfl rfl dL_law_889 ?_
  rintro v9 h1 nx1 ⟨rfl, hC1, hFr, f1, ho1, hov⟩ hle
  have hM1 : MO h1 (x + 17) F A B := hM.fr (fun q a1 a2 => hFr q (Or.inr ⟨by omega, by omega⟩) (by omega))
  have hnx1 : cBase k ≤ nx1 := Nat.le_trans hnx hle
  refine r_istore g dL_law_892 rfl rfl rfl ?_
  refine r_aload_n g dL_law_894 rfl ?_
  refine r_aload_n g dL_law_895 rfl ?_
  refine r_iload g dL_law_896 rfl ?_
  refine r_iconst (v := 1) g dL_law_898 (by decide) ?_
  refine r_iadd g dL_law_899 ?_
  refine r_topi (y := (nI (i + 1))) (nI_add i 1) ?_
  refine r_sld (j := i + 1) g hx rfl (by omega) (by omega) dL_law_900 ?_
  refine r_aload_n g dL_law_901 rfl ?_
  refine r_iload g dL_law_902 rfl ?_
  refine r_iconst (v := 2) g dL_law_904 (by decide) ?_
  refine r_iadd g dL_law_905 ?_
  refine r_topi (y := (nI (i + 2))) (nI_add i 2) ?_
  refine r_sld (j := i + 2) g hx rfl (by omega) (by omega) dL_law_906 ?_
  refine r_callV g kL_121 (ok_m_told _ _ _ _ s hA hI hM1 (by omega) r hMG (xs (i + 1)) (xs (i + 2))) hM1.1 rfl rfl rfl hnx1 hR (by decide) (by omega) (by omega) rfl rfl dL_law_907 ?_
  rintro v9 h2 nx2 ⟨rfl, hv2, F2, A2, hM2, hI2, hF2, hSG⟩ -
  obtain ⟨y2, hv3, hy2⟩ : ∃ y, v9 = some (.int y) ∧ ((sTold s r (xs (i + 1)) (xs (i + 2))).1 = 0 → y = (sTold s r (xs (i + 1)) (xs (i + 2))).2) := hv2
  subst hv3
  refine r_istore g dL_law_910 rfl rfl rfl ?_
  refine r_aload_n g dL_law_912 rfl ?_
  refine r_pV g kL_76 (ok_m_thrown _ _ _ _ hM2.1) hM2.1.1 rfl rfl rfl hnx1 hR (by decide) (by omega) (by omega) rfl rfl dL_law_913 ?_
  refine r_topi (y := (nI ((sTold s r (xs (i + 1)) (xs (i + 2))).1))) hF2 ?_
  refine r_iload g dL_law_916 rfl ?_
  refine r_icmp_eq 923 g dL_law_918 (by decide) (fun c918 => ?_) (fun c918 => absurd rfl c918)
  refine r_iload g dL_law_923 rfl ?_
  refine r_if_ne 940 g dL_law_925 (by decide) (fun c925 => ?_) (fun c925 => ?_)
  · skip
    refine r_goto 1081 g dL_law_940 (by decide) ?_
    refine r_le (ls2 := [some (.ref b), some (.ref x), some (.ref (x + 17)), some (.ref (x + 42)), some (.int (nI i)), none, none]) ⟨rfl, rfl, rfl, rfl, rfl, trivial⟩ ?_
    exact hback s r h2 nx1 _ _ ⟨hA, hC1.ext (fun q hq => hM2.2 q (by omega)) (Nat.le_refl _), hRN, ⟨F2, A2, B, hM2.1, hI2, hMG.same hSG⟩, f1, (hM2.2 _ (by omega)).trans ho1⟩ hnx1 (by omega) (by omega)
  · skip
    have hz : (sTold s r (xs (i + 1)) (xs (i + 2))).1 = 0 := eq0 (by have := le2_Told s r (xs (i + 1)) (xs (i + 2)); omega) c925
    have hov2 := hov hz
    have hy3 := hy2 hz
    refine r_aload_n g dL_law_928 rfl ?_
    refine r_iconst (v := 0) g dL_law_929 (by decide) ?_
    refine r_lald (j := 0) g ((hM2.2 _ (by omega)).trans ho1) rfl (by decide) (by decide) dL_law_930 ?_
    refine r_iload g dL_law_931 rfl ?_
    refine r_i2l g dL_law_933 ?_
    refine r_lcmp g dL_law_934 ?_
    refine r_if_eq 940 g dL_law_935 (by decide) (fun c935 => ?_) (fun c935 => absurd ((lg_cmp_eq _ _).mpr (by rw [hov2, ← hy3]; rfl)) c935)
    refine r_goto 1081 g dL_law_940 (by decide) ?_
    refine r_le (ls2 := [some (.ref b), some (.ref x), some (.ref (x + 17)), some (.ref (x + 42)), some (.int (nI i)), none, none]) ⟨rfl, rfl, rfl, rfl, rfl, trivial⟩ ?_
    exact hback s r h2 nx1 _ _ ⟨hA, hC1.ext (fun q hq => hM2.2 q (by omega)) (Nat.le_refl _), hRN, ⟨F2, A2, B, hM2.1, hI2, hMG.same hSG⟩, f1, (hM2.2 _ (by omega)).trans ho1⟩ hnx1 (by omega) (by omega)
set_option maxHeartbeats 4000000 in
set_option maxRecDepth 100000 in
theorem law_left {k : Cx} {b L : Nat} {xs : Nat → Int32} (g : Gd k RL cL_law) (hx : XS k b L xs) (hL : L ≤ 2049) (hR : RmK k 2000 601024 7293000) (hl : (cL k).stackTraces = false) {x i c0 s0 : Nat} (hbx : cBase k ≤ x) (hc0 : c0 ≤ 3000) (hs0 : s0 ≤ 600000) (hi : i + 3 < L) {s : AS} {r : GR} {h : Hp} {nx : Nat} (hnx : cBase k ≤ nx) (hLI : LI h nx x s r) (hback : ∀ (s : AS) (r : GR) (h : Hp) (nx c s9 : Nat), LI h nx x s r → cBase k ≤ nx → c ≤ c0 + 4 → s9 ≤ s0 + 909 → Sf k c s9 h nx 1081 [some (.ref b), some (.ref x), some (.ref (x + 17)), some (.ref (x + 42)), some (.int (nI i)), none, none] []) : Sf k c0 s0 h nx 943 [some (.ref b), some (.ref x), some (.ref (x + 17)), some (.ref (x + 42)), some (.int (nI i)), none, none] [] := by
  obtain ⟨hA, hC, hRN, ⟨F, A, B, hM, hI, hMG⟩, f9, ho⟩ := hLI
  have hln := hC.obj.2.2
  obtain ⟨la, ra, cs, C9, Lz9, GA9, hB, -⟩ := id hC
  refine r_aload_n g dL_law_943 rfl ?_
  refine r_pV g kL_122 (ok_c_left _ _ _ _ hA hB) hB.1 rfl rfl rfl hnx hR (by decide) (by omega) (by omega) rfl rfl dL_law_944 ?_
  refine r_aload_n g dL_law_947 rfl ?_
  refine r_callV g kL_125 (ok_m_left _ _ _ _ s hA hI hM (by omega)) hM.1 rfl rfl rfl hnx hR (by decide) (by omega) (by omega) rfl rfl dL_law_948 ?_
  rintro v9 h2 nx2 ⟨rfl, hv2, F2, A2, hM2, hI2, hF2, hSG⟩ -
  obtain ⟨y2, hv3, hy2⟩ : ∃ y, v9 = some (.int y) ∧ ((0 : Nat) = 0 → y = nI (leftN s)) := hv2
  subst hv3
  refine r_icmp_eq 1081 g dL_law_951 (by decide) (fun c951 => ?_) (fun c951 => absurd (hy2 rfl).symm c951)
  refine r_le (ls2 := [some (.ref b), some (.ref x), some (.ref (x + 17)), some (.ref (x + 42)), some (.int (nI i)), none, none]) ⟨rfl, rfl, rfl, rfl, rfl, trivial⟩ ?_
  exact hback s r h2 nx _ _ ⟨hA, hC.ext (fun q hq => hM2.2 q (by omega)) (Nat.le_refl _), hRN, ⟨F2, A2, B, hM2.1, hI2, hMG.same hSG⟩, f9, (hM2.2 _ (by omega)).trans ho⟩ hnx (by omega) (by omega)
set_option maxHeartbeats 4000000 in
set_option maxRecDepth 100000 in
theorem law_cars {k : Cx} {b L : Nat} {xs : Nat → Int32} (g : Gd k RL cL_law) (hx : XS k b L xs) (hL : L ≤ 2049) (hR : RmK k 2000 601024 7293000) (hl : (cL k).stackTraces = false) {x i c0 s0 : Nat} (hbx : cBase k ≤ x) (hc0 : c0 ≤ 3000) (hs0 : s0 ≤ 600000) (hi : i + 3 < L) {s : AS} {r : GR} {h : Hp} {nx : Nat} (hnx : cBase k ≤ nx) (hLI : LI h nx x s r) (hback : ∀ (s : AS) (r : GR) (h : Hp) (nx c s9 : Nat), LI h nx x s r → cBase k ≤ nx → c ≤ c0 + 4 → s9 ≤ s0 + 909 → Sf k c s9 h nx 1081 [some (.ref b), some (.ref x), some (.ref (x + 17)), some (.ref (x + 42)), some (.int (nI i)), none, none] []) : Sf k c0 s0 h nx 956 [some (.ref b), some (.ref x), some (.ref (x + 17)), some (.ref (x + 42)), some (.int (nI i)), none, none] [] := by
  obtain ⟨hA, hC, hRN, ⟨F, A, B, hM, hI, hMG⟩, f9, ho⟩ := hLI
  have hln := hC.obj.2.2
  refine r_aload_n g dL_law_956 rfl ?_
  refine r_aload_n g dL_law_957 rfl ?_
  refine r_iload g dL_law_958 rfl ?_
  refine r_iconst (v := 1) g dL_law_960 (by decide) ?_
  refine r_iadd g dL_law_961 ?_
  refine r_topi (y := (nI (i + 1))) (nI_add i 1) ?_
  refine r_sld (j := i + 1) g hx rfl (by omega) (by omega) dL_law_962 ?_
  refine r_aload_n g dL_law_963 rfl ?_
  refine r_callC g kcL_126 (ok_l_cars _ _ _ _ hl (r := r) hA hC hbx ho (by omega) (by omega) (xs (i + 1))) rfl rfl hnx hR (by decide) (by omega) (by omega) rfl rfl dL_law_964 ?_
  rintro v9 h1 nx1 ⟨rfl, hC1, hFr, f1, ho1, hov⟩ hle
  have hM1 : MO h1 (x + 17) F A B := hM.fr (fun q a1 a2 => hFr q (Or.inr ⟨by omega, by omega⟩) (by omega))
  have hnx1 : cBase k ≤ nx1 := Nat.le_trans hnx hle
  refine r_istore g dL_law_967 rfl rfl rfl ?_
  refine r_aload_n g dL_law_969 rfl ?_
  refine r_aload_n g dL_law_970 rfl ?_
  refine r_iload g dL_law_971 rfl ?_
  refine r_iconst (v := 1) g dL_law_973 (by decide) ?_
  refine r_iadd g dL_law_974 ?_
  refine r_topi (y := (nI (i + 1))) (nI_add i 1) ?_
  refine r_sld (j := i + 1) g hx rfl (by omega) (by omega) dL_law_975 ?_
  refine r_callV g kL_128 (ok_m_cars _ _ _ _ s hA hI hM1 (by omega) (xs (i + 1))) hM1.1 rfl rfl rfl hnx1 hR (by decide) (by omega) (by omega) rfl rfl dL_law_976 ?_
  rintro v9 h2 nx2 ⟨rfl, hv2, F2, A2, hM2, hI2, hF2, hSG⟩ -
  obtain ⟨y2, hv3, hy2⟩ : ∃ y, v9 = some (.int y) ∧ ((sCars s (xs (i + 1))).1 = 0 → y = (sCars s (xs (i + 1))).2) := hv2
  subst hv3
  refine r_istore g dL_law_979 rfl rfl rfl ?_
  refine r_aload_n g dL_law_981 rfl ?_
  refine r_pV g kL_76 (ok_m_thrown _ _ _ _ hM2.1) hM2.1.1 rfl rfl rfl hnx1 hR (by decide) (by omega) (by omega) rfl rfl dL_law_982 ?_
  refine r_topi (y := (nI ((sCars s (xs (i + 1))).1))) hF2 ?_
  refine r_iload g dL_law_985 rfl ?_
  refine r_icmp_eq 992 g dL_law_987 (by decide) (fun c987 => ?_) (fun c987 => absurd rfl c987)
  refine r_iload g dL_law_992 rfl ?_
  refine r_if_ne 1009 g dL_law_994 (by decide) (fun c994 => ?_) (fun c994 => ?_)
  · skip
    refine r_goto 1081 g dL_law_1009 (by decide) ?_
    refine r_le (ls2 := [some (.ref b), some (.ref x), some (.ref (x + 17)), some (.ref (x + 42)), some (.int (nI i)), none, none]) ⟨rfl, rfl, rfl, rfl, rfl, trivial⟩ ?_
    exact hback s r h2 nx1 _ _ ⟨hA, hC1.ext (fun q hq => hM2.2 q (by omega)) (Nat.le_refl _), hRN, ⟨F2, A2, B, hM2.1, hI2, hMG.same hSG⟩, f1, (hM2.2 _ (by omega)).trans ho1⟩ hnx1 (by omega) (by omega)
  · skip
    have hz : (sCars s (xs (i + 1))).1 = 0 := eq0 (by have := le2_Cars s (xs (i + 1)); omega) c994
    have hov2 := hov hz
    have hy3 := hy2 hz
    refine r_aload_n g dL_law_997 rfl ?_
    refine r_iconst (v := 0) g dL_law_998 (by decide) ?_
    refine r_lald (j := 0) g ((hM2.2 _ (by omega)).trans ho1) rfl (by decide) (by decide) dL_law_999 ?_
    refine r_iload g dL_law_1000 rfl ?_
    refine r_i2l g dL_law_1002 ?_
    refine r_lcmp g dL_law_1003 ?_
    refine r_if_eq 1009 g dL_law_1004 (by decide) (fun c1004 => ?_) (fun c1004 => absurd ((lg_cmp_eq _ _).mpr (by rw [hov2, ← hy3]; rfl)) c1004)
    refine r_goto 1081 g dL_law_1009 (by decide) ?_
    refine r_le (ls2 := [some (.ref b), some (.ref x), some (.ref (x + 17)), some (.ref (x + 42)), some (.int (nI i)), none, none]) ⟨rfl, rfl, rfl, rfl, rfl, trivial⟩ ?_
    exact hback s r h2 nx1 _ _ ⟨hA, hC1.ext (fun q hq => hM2.2 q (by omega)) (Nat.le_refl _), hRN, ⟨F2, A2, B, hM2.1, hI2, hMG.same hSG⟩, f1, (hM2.2 _ (by omega)).trans ho1⟩ hnx1 (by omega) (by omega)
set_option maxHeartbeats 4000000 in
set_option maxRecDepth 100000 in
theorem law_open {k : Cx} {b L : Nat} {xs : Nat → Int32} (g : Gd k RL cL_law) (hx : XS k b L xs) (hL : L ≤ 2049) (hR : RmK k 2000 601024 7293000) (hl : (cL k).stackTraces = false) {x i c0 s0 : Nat} (hbx : cBase k ≤ x) (hc0 : c0 ≤ 3000) (hs0 : s0 ≤ 600000) (hi : i + 3 < L) {s : AS} {r : GR} {h : Hp} {nx : Nat} (hnx : cBase k ≤ nx) (hLI : LI h nx x s r) (hback : ∀ (s : AS) (r : GR) (h : Hp) (nx c s9 : Nat), LI h nx x s r → cBase k ≤ nx → c ≤ c0 + 4 → s9 ≤ s0 + 909 → Sf k c s9 h nx 1081 [some (.ref b), some (.ref x), some (.ref (x + 17)), some (.ref (x + 42)), some (.int (nI i)), none, none] []) : Sf k c0 s0 h nx 1012 [some (.ref b), some (.ref x), some (.ref (x + 17)), some (.ref (x + 42)), some (.int (nI i)), none, none] [] := by
  obtain ⟨hA, hC, hRN, ⟨F, A, B, hM, hI, hMG⟩, f9, ho⟩ := hLI
  have hln := hC.obj.2.2
  obtain ⟨la, ra, cs, C9, Lz9, GA9, hB, -⟩ := id hC
  refine r_aload_n g dL_law_1012 rfl ?_
  refine r_pV g kL_129 (ok_c_open _ _ _ _ hA hB) hB.1 rfl rfl rfl hnx hR (by decide) (by omega) (by omega) rfl rfl dL_law_1013 ?_
  refine r_aload_n g dL_law_1016 rfl ?_
  refine r_callV g kL_132 (ok_m_open _ _ _ _ s hA hI hM (by omega)) hM.1 rfl rfl rfl hnx hR (by decide) (by omega) (by omega) rfl rfl dL_law_1017 ?_
  rintro v9 h2 nx2 ⟨rfl, hv2, F2, A2, hM2, hI2, hF2, hSG⟩ -
  obtain ⟨y2, hv3, hy2⟩ : ∃ y, v9 = some (.int y) ∧ ((0 : Nat) = 0 → y = nI (nOp s)) := hv2
  subst hv3
  refine r_icmp_eq 1081 g dL_law_1020 (by decide) (fun c1020 => ?_) (fun c1020 => absurd (hy2 rfl).symm c1020)
  refine r_le (ls2 := [some (.ref b), some (.ref x), some (.ref (x + 17)), some (.ref (x + 42)), some (.int (nI i)), none, none]) ⟨rfl, rfl, rfl, rfl, rfl, trivial⟩ ?_
  exact hback s r h2 nx _ _ ⟨hA, hC.ext (fun q hq => hM2.2 q (by omega)) (Nat.le_refl _), hRN, ⟨F2, A2, B, hM2.1, hI2, hMG.same hSG⟩, f9, (hM2.2 _ (by omega)).trans ho⟩ hnx (by omega) (by omega)
set_option maxHeartbeats 4000000 in
set_option maxRecDepth 100000 in
theorem law_weight {k : Cx} {b L : Nat} {xs : Nat → Int32} (g : Gd k RL cL_law) (hx : XS k b L xs) (hL : L ≤ 2049) (hR : RmK k 2000 601024 7293000) (hl : (cL k).stackTraces = false) {x i c0 s0 : Nat} (hbx : cBase k ≤ x) (hc0 : c0 ≤ 3000) (hs0 : s0 ≤ 600000) (hi : i + 3 < L) {s : AS} {r : GR} {h : Hp} {nx : Nat} (hnx : cBase k ≤ nx) (hLI : LI h nx x s r) (hback : ∀ (s : AS) (r : GR) (h : Hp) (nx c s9 : Nat), LI h nx x s r → cBase k ≤ nx → c ≤ c0 + 4 → s9 ≤ s0 + 909 → Sf k c s9 h nx 1081 [some (.ref b), some (.ref x), some (.ref (x + 17)), some (.ref (x + 42)), some (.int (nI i)), none, none] []) : Sf k c0 s0 h nx 1025 [some (.ref b), some (.ref x), some (.ref (x + 17)), some (.ref (x + 42)), some (.int (nI i)), none, none] [] := by
  obtain ⟨hA, hC, hRN, ⟨F, A, B, hM, hI, hMG⟩, f9, ho⟩ := hLI
  have hln := hC.obj.2.2
  refine r_aload_n g dL_law_1025 rfl ?_
  refine r_aload_n g dL_law_1026 rfl ?_
  refine r_iload g dL_law_1027 rfl ?_
  refine r_iconst (v := 1) g dL_law_1029 (by decide) ?_
  refine r_iadd g dL_law_1030 ?_
  refine r_topi (y := (nI (i + 1))) (nI_add i 1) ?_
  refine r_sld (j := i + 1) g hx rfl (by omega) (by omega) dL_law_1031 ?_
  refine r_aload_n g dL_law_1032 rfl ?_
  refine r_callC g kcL_133 (ok_l_weight _ _ _ _ hl (r := r) hA hC hbx ho (by omega) (by omega) (xs (i + 1))) rfl rfl hnx hR (by decide) (by omega) (by omega) rfl rfl dL_law_1033 ?_
  rintro v9 h1 nx1 ⟨rfl, hC1, hFr, f1, ho1, hov⟩ hle
  have hM1 : MO h1 (x + 17) F A B := hM.fr (fun q a1 a2 => hFr q (Or.inr ⟨by omega, by omega⟩) (by omega))
  have hnx1 : cBase k ≤ nx1 := Nat.le_trans hnx hle
  refine r_istore g dL_law_1036 rfl rfl rfl ?_
  refine r_aload_n g dL_law_1038 rfl ?_
  refine r_aload_n g dL_law_1039 rfl ?_
  refine r_iload g dL_law_1040 rfl ?_
  refine r_iconst (v := 1) g dL_law_1042 (by decide) ?_
  refine r_iadd g dL_law_1043 ?_
  refine r_topi (y := (nI (i + 1))) (nI_add i 1) ?_
  refine r_sld (j := i + 1) g hx rfl (by omega) (by omega) dL_law_1044 ?_
  refine r_callV g kL_135 (ok_m_weight _ _ _ _ s hA hI hM1 (by omega) (xs (i + 1))) hM1.1 rfl rfl rfl hnx1 hR (by decide) (by omega) (by omega) rfl rfl dL_law_1045 ?_
  rintro v9 h2 nx2 ⟨rfl, hv2, F2, A2, hM2, hI2, hF2, hSG⟩ -
  obtain ⟨y2, hv3, hy2⟩ : ∃ y, v9 = some (.int y) ∧ ((sWeight s (xs (i + 1))).1 = 0 → y = (sWeight s (xs (i + 1))).2) := hv2
  subst hv3
  refine r_istore g dL_law_1048 rfl rfl rfl ?_
  refine r_aload_n g dL_law_1050 rfl ?_
  refine r_pV g kL_76 (ok_m_thrown _ _ _ _ hM2.1) hM2.1.1 rfl rfl rfl hnx1 hR (by decide) (by omega) (by omega) rfl rfl dL_law_1051 ?_
  refine r_topi (y := (nI ((sWeight s (xs (i + 1))).1))) hF2 ?_
  refine r_iload g dL_law_1054 rfl ?_
  refine r_icmp_eq 1061 g dL_law_1056 (by decide) (fun c1056 => ?_) (fun c1056 => absurd rfl c1056)
  refine r_iload g dL_law_1061 rfl ?_
  refine r_if_ne 1078 g dL_law_1063 (by decide) (fun c1063 => ?_) (fun c1063 => ?_)
  · skip
    refine r_goto 1081 g dL_law_1078 (by decide) ?_
    refine r_le (ls2 := [some (.ref b), some (.ref x), some (.ref (x + 17)), some (.ref (x + 42)), some (.int (nI i)), none, none]) ⟨rfl, rfl, rfl, rfl, rfl, trivial⟩ ?_
    exact hback s r h2 nx1 _ _ ⟨hA, hC1.ext (fun q hq => hM2.2 q (by omega)) (Nat.le_refl _), hRN, ⟨F2, A2, B, hM2.1, hI2, hMG.same hSG⟩, f1, (hM2.2 _ (by omega)).trans ho1⟩ hnx1 (by omega) (by omega)
  · skip
    have hz : (sWeight s (xs (i + 1))).1 = 0 := eq0 (by have := le2_Weight s (xs (i + 1)); omega) c1063
    have hov2 := hov hz
    have hy3 := hy2 hz
    refine r_aload_n g dL_law_1066 rfl ?_
    refine r_iconst (v := 0) g dL_law_1067 (by decide) ?_
    refine r_lald (j := 0) g ((hM2.2 _ (by omega)).trans ho1) rfl (by decide) (by decide) dL_law_1068 ?_
    refine r_iload g dL_law_1069 rfl ?_
    refine r_i2l g dL_law_1071 ?_
    refine r_lcmp g dL_law_1072 ?_
    refine r_if_eq 1078 g dL_law_1073 (by decide) (fun c1073 => ?_) (fun c1073 => absurd ((lg_cmp_eq _ _).mpr (by rw [hov2, ← hy3]; rfl)) c1073)
    refine r_goto 1081 g dL_law_1078 (by decide) ?_
    refine r_le (ls2 := [some (.ref b), some (.ref x), some (.ref (x + 17)), some (.ref (x + 42)), some (.int (nI i)), none, none]) ⟨rfl, rfl, rfl, rfl, rfl, trivial⟩ ?_
    exact hback s r h2 nx1 _ _ ⟨hA, hC1.ext (fun q hq => hM2.2 q (by omega)) (Nat.le_refl _), hRN, ⟨F2, A2, B, hM2.1, hI2, hMG.same hSG⟩, f1, (hM2.2 _ (by omega)).trans ho1⟩ hnx1 (by omega) (by omega)
