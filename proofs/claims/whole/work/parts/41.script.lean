/-! 41: the script; a table of jumps -/
def XS (k : Cx) (b L : Nat) (xs : Nat → Int32) : Prop := match k with
  | (_, _, _, _, s, _, _, _, _, _, _, base, _, _, _) => va_X b L xs s s.heap ∧ b < base
def PKx (G : Nat → ClassId) (D : va_G) (base : Nat) (args : List Value) (h : Hp) (nx b L : Nat) (xs : Nat → Int32) : Array Value → State → Prop := va_Pc args (fun U => base ≤ nx ∧ HPok G D nx h U.heap ∧ KK G D base U U.heap ∧ va_X b L xs U U.heap ∧ b < base)
def MetXs (l : Launch) (G : Nat → ClassId) (D : va_G) (base : Nat) (mi : Mi) (lv mc ms : Nat) (args : List Value) (h : Hp) (nx b L : Nat) (xs : Nat → Int32) (K : Option Value → Hp → Nat → Prop) : Prop :=
  Met l mi.1 (Cond.code mi.1 mi.2.1 mi.2.2.1 mi.2.2.2 :: UW) (rmOf lv mc ms) (PKx G D base args h nx b L xs) (QK G D base K) mc ms (ABase base)
theorem PKx_blind {G : Nat → ClassId} {D : va_G} {base : Nat} {args : List Value} {h : Hp} {nx b L : Nat} {xs : Nat → Int32} : FrameBlind (PKx G D base args h nx b L xs) :=
  fun a U gf mk q => ⟨q.1, q.2.1, q.2.2.1, KK.warm (State.WarmedH.refl U : U.WarmedH (U.calling gf mk a).vm) q.2.2.2.1, va_X.moved (State.WarmedH.refl U : U.WarmedH (U.calling gf mk a).vm).alike q.2.2.2.2.1, q.2.2.2.2.2⟩
theorem MetXs_of {l : Launch} {G : Nat → ClassId} {D : va_G} {base : Nat} {mi : Mi} {lv mc ms : Nat} {args : List Value} {h : Hp} {nx b L : Nat} {xs : Nat → Int32} {K : Option Value → Hp → Nat → Prop} (hy : plainName mi.1.cls = true) (hlen : Nat.ble (enL args).length mi.2.2.1 = true)
    (body : ∀ k : Cx, Gd k mi.1.cls mi.2.1 → RetK k mi.2.2.2 mc ms K → RmK k lv mc ms → XS k b L xs → cL k = l → cG k = G → cD k = D → cBase k = base → base ≤ nx → Sf k 0 0 h nx 0 (enL args ++ List.replicate (mi.2.2.1 - (enL args).length) none) []) : MetXs l G D base mi lv mc ms args h nx b L xs K := by
  refine Met.ofW (cc := mi.2.1) (maxL := mi.2.2.1) (ret := mi.2.2.2) hy rfl ?_
  intro p e s m a below meth c s₁ B hml hv
  obtain ⟨rfl, hnx, hH, hKK, hX, hbb⟩ := hv
  have hts := atoms_spec (ws := Cond.code mi.1 mi.2.1 mi.2.2.1 mi.2.2.2 :: UW) B.pre
  rw [lg_entry_eq]
  exact body (p, l, e, _, s, m, args.toArray, below, meth, c, _, base, G, D, mi.2.2.1) ⟨B.exec, B.bytes, hml, findClass_of_methodNamed B.named, fun w hw => hts w (List.mem_cons_of_mem _ hw), hKK, by rw [hH.1]; exact hnx, B.notSynchronized⟩
    ⟨B.returns, fun _ _ _ z => z⟩ ⟨Nat.le_refl _, Nat.le_refl _, Nat.le_refl _, Nat.le_refl _⟩ ⟨hX, hbb⟩ rfl rfl rfl rfl hnx s.heap [] _ hH va_S.rf (lh_entry args (Nat.le_of_ble_eq_true hlen))
section SCR
variable {k : Cx} {own : String} {cc : ByteArray} {cells slots : Nat} {h : Hp} {nx pc : Nat} {ls : List (Option Value)} {st stk : List Value} {mc ms mc0 ms0 lv lv0 n idx : Nat} {mi : Mi} {As : List Value} {K : Option Value → Hp → Nat → Prop} {b L : Nat} {xs : Nat → Int32}
theorem r_sld {i : Int32} {j : Nat} (g : Gd k own cc) (hx : XS k b L xs) (hi : i = nI j) (hj : j < L) (hL9 : L < 2 ^ 31) (d : decode cc pc = .ok (.iaload, 1)) (kk : Sf k cells slots h nx (pc + 1) ls (.int (xs j) :: st)) : Sf k cells slots h nx pc ls (.int i :: .ref b :: st) := by
  obtain ⟨p, l, e, R, s, m, args, below, meth, c, Q, base, G, D, nL⟩ := k
  intro H locs la hH hS hL
  obtain ⟨h1, h2⟩ := nI_j hi hj hL9
  subst h2
  exact va_sld g.1 g.2.1 hx.1 (Nat.lt_of_lt_of_le hx.2 g.2.2.2.2.2.2.1) (Nat.not_le_of_gt hx.2) hS h1 d (kk H locs la hH hS hL)
theorem r_slen (g : Gd k own cc) (hx : XS k b L xs) (d : decode cc pc = .ok (.arraylength, 1)) (kk : Sf k cells slots h nx (pc + 1) ls (.int (nI L) :: st)) : Sf k cells slots h nx pc ls (.ref b :: st) := by
  obtain ⟨p, l, e, R, s, m, args, below, meth, c, Q, base, G, D, nL⟩ := k
  intro H locs la hH hS hL
  exact va_slen g.1 g.2.1 hx.1 (Nat.lt_of_lt_of_le hx.2 g.2.2.2.2.2.2.1) (Nat.not_le_of_gt hx.2) hS d (kk H locs la hH hS hL)
theorem r_callSx (g : Gd k own cc) (hx : XS k b L xs) (cv : CSt own idx mi n) (hM : MetXs (cL k) (cG k) (cD k) (cBase k) mi lv mc ms As h nx b L xs K) (hn : As.length = n) (hstk : stk = As.reverse ++ st) (hnx : cBase k ≤ nx)
    (hR : RmK k lv0 mc0 ms0) (h1 : lv + 1 ≤ lv0) (h2 : cells + mc ≤ mc0) (h3 : slots + ms ≤ ms0) (h4 : Nat.ble mi.2.2.1 20 = true) (hW : Nat.ble ((st.map fun v => v.category).sum) 8 = true) (d : decode cc pc = .ok (.invokestatic idx, 3))
    (kk : ∀ (v : Option Value) (h' : Hp) (nx' : Nat), K v h' nx' → nx ≤ nx' → Sf k (cells + mc) (slots + ms) h' nx' (pc + 3) ls (v.toList ++ st)) : Sf k cells slots h nx pc ls stk := by
  obtain ⟨p, l, e, R, s, m, args, below, meth, c, Q, base, G, D, nL⟩ := k
  intro H locs la hH hS hL
  subst hstk
  have hts := g.2.2.2.2.1
  have h49 := Nat.le_of_ble_eq_true h4
  have hbs := Nat.lt_of_lt_of_le hx.2 g.2.2.2.2.2.2.1
  have cw : CallB R s args own idx mi.1 mi.2.1 mi.2.2.1 mi.2.2.2 (Cond.code mi.1 mi.2.1 mi.2.2.1 mi.2.2.2 :: UW) (rmOf lv mc ms) mc ms n ∧ (Cond.static mi.1).before args s = true :=
    ⟨⟨rfl, rfl, Nat.le_trans h1 hR.1, by have := hR.2.1; show 8 + (mi.2.2.1 + 11) + 40 * lv ≤ R.locals; have h5 : 40 * lv0 ≤ R.locals := this; omega, pay_in hts (good_all cv.2.2.2.1), List.mem_cons_self, hts _ cv.2.2.2.1, hts _ cv.2.2.1, cv.2.2.2.2.1, fun sig hs9 => by have h6 := cv.2.2.2.2.2; rw [hs9] at h6; exact (Option.some.inj h6).symm, hts _ cv.1⟩, hts _ cv.2.1⟩
  refine run_to (va_runS (As := As) (rest := st) ⟨g.1, g.2.1, g.2.2.1, g.2.2.2.1, hts⟩ hM cw ⟨PKx_blind, fun U hU hW9 => ⟨rfl, hnx, by rw [hU]; exact hH, KK.warm hW9 (by rw [hU]; exact g.2.2.2.2.2.1.kept hS.2.1), va_X.moved hW9.alike (by rw [hU]; exact hx.1.kept (hS.2.1 b hbs (Nat.not_le_of_gt hx.2))), hx.2⟩⟩ rfl hn hL.1 rfl (lv_room (Nat.le_of_ble_eq_true hW)) d ⟨Nat.le_trans h2 hR.2.2.1, Nat.le_trans h3 hR.2.2.2⟩) hH hS ?_
  exact fun v h' nx' hk9 hle H1 locs1 hH1 hS1 => kk v h' nx' hk9 hle H1 locs1 la hH1 hS1 hL
theorem r_tswI {dflt lo hi : Int} {offs : Array Int} {len : Nat} {x : Int32} {off : Int} (tgt : Nat) (g : Gd k own cc) (d : decode cc pc = .ok (.tableswitch dflt lo hi offs, len)) (h1 : ¬ x.toInt < lo) (h2 : ¬ hi < x.toInt) (ho : offs[(x.toInt - lo).toNat]? = some off) (ht : (pc : Int) + off = (tgt : Int)) (kk : Sf k cells slots h nx tgt ls st) : Sf k cells slots h nx pc ls (.int x :: st) := by
  obtain ⟨p, l, e, R, s, m, args, below, meth, c, Q, base, G, D, nL⟩ := k
  intro H locs la hH hS hL
  exact lv_tableIn g.1 g.2.1 d h1 h2 ho ht (kk H locs la hH hS hL)
theorem r_tswO {dflt lo hi : Int} {offs : Array Int} {len : Nat} {x : Int32} (tgt : Nat) (g : Gd k own cc) (d : decode cc pc = .ok (.tableswitch dflt lo hi offs, len)) (h1 : x.toInt < lo ∨ hi < x.toInt) (ht : (pc : Int) + dflt = (tgt : Int)) (kk : Sf k cells slots h nx tgt ls st) : Sf k cells slots h nx pc ls (.int x :: st) := by
  obtain ⟨p, l, e, R, s, m, args, below, meth, c, Q, base, G, D, nL⟩ := k
  intro H locs la hH hS hL
  exact lv_tableOut g.1 g.2.1 d h1 ht (kk H locs la hH hS hL)
end SCR
def x0 (L : Nat) (xs : Nat → Int32) : Int32 := if 0 < L then xs 0 else 0
set_option maxHeartbeats 4000000 in
set_option maxRecDepth 100000 in
theorem ok_l_cell (l : Launch) (G : Nat → ClassId) (D : va_G) (base : Nat) {h : Hp} {nx b L : Nat} {xs : Nat → Int32} (hL : L ≤ 2049) : MetXs l G D base miL_cell 0 0 0 [.ref b, .int 0] h nx b L xs (Kv (.int (x0 L xs)) h nx) := by
  refine MetXs_of (by decide +kernel) rfl ?_
  intro k g hr hR hx hcl hcg hcd hcb hnx
  subst hcl; subst hcg; subst hcd; subst hcb
  show Sf k 0 0 h nx 0 [some (.ref b), some (.int (nI 0))] []
  refine r_iload_n g dL_cell_0 rfl ?_
  refine r_aload_n g dL_cell_1 rfl ?_
  refine r_slen g hx dL_cell_2 ?_
  refine r_icmp_ge 12 g dL_cell_3 (by decide) (fun c3 => ?_) (fun c3 => ?_)
  · skip
    have q : ¬ 0 < L := fun z => absurd c3 (nI_ge (a := 0) z (by omega))
    refine r_iconst (v := 0) g dL_cell_12 (by decide) ?_
    exact r_iret g hr (Nat.le_refl _) (Nat.le_refl _) dL_cell_13 ⟨congrArg (fun z => some (Value.int z)) (if_neg q).symm, rfl, rfl⟩
  · skip
    have q : 0 < L := Nat.lt_of_not_le (fun z => c3 (nI_le (b := 0) z (by decide)))
    refine r_aload_n g dL_cell_6 rfl ?_
    refine r_iload_n g dL_cell_7 rfl ?_
    refine r_sld (j := 0) g hx rfl (by omega) (by omega) dL_cell_8 ?_
    refine r_goto 13 g dL_cell_9 (by decide) ?_
    exact r_iret g hr (Nat.le_refl _) (Nat.le_refl _) dL_cell_13 ⟨congrArg (fun z => some (Value.int z)) (if_pos q).symm, rfl, rfl⟩
