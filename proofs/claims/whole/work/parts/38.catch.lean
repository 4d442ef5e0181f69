/-! 38: methods that catch: what they call may throw -/
abbrev Mh : Type := Mi × List (Nat × Nat × Nat × Nat)
def CSh (own : String) (idx : Nat) (mh : Mh) (n : Nat) : Prop := Cond.methodLink own idx mh.1.1 ∈ UW ∧ Cond.static mh.1.1 ∈ UW ∧ Cond.initialized mh.1.1.cls ∈ UW ∧ Cond.codeWith mh.1.1 mh.1.2.1 mh.1.2.2.1 mh.1.2.2.2 mh.2 ∈ UW ∧ (mh.1.1.cls ≠ "java/lang/invoke/MethodHandle" ∧ mh.1.1.cls ≠ "java/lang/invoke/VarHandle") ∧ (parseMethodDescriptor mh.1.1.desc).map (fun d => d.parameters.length) = some n
def MetC (l : Launch) (G : Nat → ClassId) (D : va_G) (base : Nat) (mh : Mh) (lv mc ms : Nat) (args : List Value) (h : Hp) (nx : Nat) (K : Option Value → Hp → Nat → Prop) : Prop :=
  vx_Met l mh.1.1 (Cond.codeWith mh.1.1 mh.1.2.1 mh.1.2.2.1 mh.1.2.2.2 mh.2 :: UW) (rmOf lv mc ms) (PK G D base args h nx) (QK G D base K) (fun _ _ _ => False) mc ms (ABase base)
def TbK (k : Cx) (hh : List (Nat × Nat × Nat × Nat)) : Prop := match k with
  | (_, _, _, _, _, _, _, _, _, c, _, _, _, _, _) => c.exceptionTable.toList = tableOf hh
theorem MetC_of {l : Launch} {G : Nat → ClassId} {D : va_G} {base : Nat} {mh : Mh} {lv mc ms : Nat} {args : List Value} {h : Hp} {nx : Nat} {K : Option Value → Hp → Nat → Prop} (hy : plainName mh.1.1.cls = true) (hlen : Nat.ble (enL args).length mh.1.2.2.1 = true)
    (body : ∀ k : Cx, Gd k mh.1.1.cls mh.1.2.1 → RetK k mh.1.2.2.2 mc ms K → TbK k mh.2 → RmK k lv mc ms → cL k = l → cG k = G → cD k = D → cBase k = base → base ≤ nx → Sf k 0 0 h nx 0 (enL args ++ List.replicate (mh.1.2.2.1 - (enL args).length) none) []) : MetC l G D base mh lv mc ms args h nx K := by
  refine vx_ofWH (cc := mh.1.2.1) (maxL := mh.1.2.2.1) (ret := mh.1.2.2.2) (hh := mh.2) hy rfl ?_
  intro p e s m a below meth c s₁ B hml hv
  obtain ⟨rfl, hnx, hH, hKK⟩ := hv
  have hts := atoms_spec (ws := Cond.codeWith mh.1.1 mh.1.2.1 mh.1.2.2.1 mh.1.2.2.2 mh.2 :: UW) B.pre
  rw [lg_entry_eq]
  exact body (p, l, e, _, s, m, args.toArray, below, meth, c, _, base, G, D, mh.1.2.2.1) ⟨B.exec, B.bytes, hml, findClass_of_methodNamed B.named, fun w hw => hts w (List.mem_cons_of_mem _ hw), hKK, by rw [hH.1]; exact hnx, B.notSynchronized⟩
    ⟨B.returns, fun _ _ _ z => vx_ret z⟩ (vx_table (x := mh.1.1) B (hts _ List.mem_cons_self)) ⟨Nat.le_refl _, Nat.le_refl _, Nat.le_refl _, Nat.le_refl _⟩ rfl rfl rfl rfl hnx s.heap [] _ hH va_S.rf (lh_entry args (Nat.le_of_ble_eq_true hlen))
/-- where an exception of class E at q goes on at pc -/
def XW (k : Cx) (cells slots : Nat) (h : Hp) (nx pc : Nat) (ls : List (Option Value)) (E : String) : Prop := match k with
  | (p, l, e, R, s, m, args, below, meth, c, Q, base, G, D, nL) => ∀ (H : Heap) (locs : List Loc) (la : Array Slot) (rest : List Value) (q : Addr) (ce : Cell), HPok G D nx h H → va_S (ABase base) s.heap H locs → lh la nL ls → H[q]? = some ce → ce.vm = .none → s.vm.findClass E = some ce.cls → vx_W p l e R s m args below meth c H locs cells slots Q (F0 m pc la rest) q
section CATCH
variable {k : Cx} {own : String} {cc : ByteArray} {cells slots : Nat} {h : Hp} {nx pc : Nat} {ls : List (Option Value)} {st stk : List Value} {mc ms mc0 ms0 lv lv0 n idx : Nat} {mi : Mi} {As : List Value} {K : Option Value → Hp → Nat → Prop} {KX : String → Prop}
theorem r_callVX {a ci : Nat} {fs : List Value} (g : Gd k own cc) (cv : CV own idx mi n) (hM : MetX (cL k) (cG k) (cD k) (cBase k) mi lv mc ms (.ref a :: As) h nx K KX) (hobj : h a = some (eO ci fs)) (hci : (vwCl[ci]?).map (fun q => q.1) = some mi.1.cls) (hn : As.length = n) (hstk : stk = As.reverse ++ .ref a :: st) (hnx : cBase k ≤ nx)
    (hR : RmK k lv0 mc0 ms0) (h1 : lv + 1 ≤ lv0) (h2 : cells + mc ≤ mc0) (h3 : slots + ms ≤ ms0) (h4 : Nat.ble mi.2.2.1 20 = true) (hW : Nat.ble ((st.map fun v => v.category).sum) 8 = true) (d : decode cc pc = .ok (.invokevirtual idx, 3))
    (kk : ∀ (v : Option Value) (h' : Hp) (nx' : Nat), K v h' nx' → nx ≤ nx' → Sf k (cells + mc) (slots + ms) h' nx' (pc + 3) ls (v.toList ++ st))
    (kx : ∀ (E : String) (nx' : Nat), KX E → nx ≤ nx' → XW k (cells + mc) (slots + ms) h nx' pc ls E) : Sf k cells slots h nx pc ls stk := by
  obtain ⟨p, l, e, R, s, m, args, below, meth, c, Q, base, G, D, nL⟩ := k
  intro H locs la hH hS hL
  subst hstk
  obtain ⟨r, hr9⟩ : ∃ r, vwCl[ci]? = some r := by
    cases hq : vwCl[ci]? with
    | none => rw [hq] at hci; cases hci
    | some r => exact ⟨r, rfl⟩
  have hcls : r.1 = mi.1.cls := by rw [hr9] at hci; exact Option.some.inj hci
  have hrec := va_recv g.2.2.2.2.2.1.1 (hp1 hH hobj) (ci := ci) (q0 := 0) hr9 rfl
  rw [hcls] at hrec
  have hts := g.2.2.2.2.1
  have h49 := Nat.le_of_ble_eq_true h4
  have cw : CallW R s args own mi.1.cls idx mi.1 mi.2.1 mi.2.2.1 mi.2.2.2 (Cond.code mi.1 mi.2.1 mi.2.2.1 mi.2.2.2 :: UW) (rmOf lv mc ms) mc ms n :=
    ⟨⟨rfl, rfl, Nat.le_trans h1 hR.1, by have := hR.2.1; show 8 + (mi.2.2.1 + 11) + 40 * lv ≤ R.locals; have h5 : 40 * lv0 ≤ R.locals := this; omega, pay_in hts (good_all cv.2.2.2.2.1), List.mem_cons_self, hts _ cv.2.2.2.2.1, hts _ cv.2.2.2.1, cv.2.2.2.2.2.1, fun sig hs9 => by have h6 := cv.2.2.2.2.2.2; rw [hs9] at h6; exact (Option.some.inj h6).symm, hts _ cv.1⟩, hts _ cv.2.1, hts _ cv.2.2.1⟩
  have hr := vx_runV (g := F0 m pc la (As.reverse ++ .ref a :: st)) (H := H) (locs := locs) (cells := cells) (slots := slots) (l := l) (e := e) (below := below) (meth := meth) (As := As) (rest := st) ⟨g.1, g.2.1, g.2.2.1, g.2.2.2.1, hts⟩ hM cw ⟨PK_blind, hrec, fun U hU hW9 => ⟨rfl, hnx, by rw [hU]; exact hH, KK.warm hW9 (by rw [hU]; exact g.2.2.2.2.2.1.kept hS.2.1)⟩⟩ rfl hn hL.1 rfl (lv_room (Nat.le_of_ble_eq_true hW)) d ⟨Nat.le_trans h2 hR.2.2.1, Nat.le_trans h3 hR.2.2.2⟩
  intro T hT X
  rcases hr T hT X with ⟨v, st₀, t, T', L, h0, X', hL9, e1, e2, ⟨⟨v9, h', nx', hv, hK9, hH'⟩, hz, hk⟩, hst⟩ | ⟨q, st₀, t, T', L, E, ce, h0, X', hL9, e1, e2, ⟨hKE, ⟨nx', hle, hH'⟩, hz, hk⟩, hce, hcv, hcl, hst⟩
  · cases hv
    rw [h0] at hz hk
    obtain ⟨t2, a1, b1⟩ := kk v h' nx' hK9 (by rw [← hH.1, ← hH'.1]; exact hz) T'.heap (locs ++ L) la (by rw [e1]; exact hH')
      ⟨Nat.le_trans hS.1 (by rw [e1]; exact hz), fun q h1 h2 => by rw [e1, hk q (Nat.lt_of_lt_of_le h1 hS.1) h2]; exact hS.2.1 q h1 h2, fun q hq => by
        rcases List.mem_append.mp hq with h | h
        · exact hS.2.2 q h
        · exact hL9 q h⟩ hL T' rfl X'
    exact ⟨t2, hst t2 a1, b1⟩
  · rw [h0] at hz hk
    obtain ⟨t2, a1, b1⟩ := kx E nx' hKE hle T'.heap (locs ++ L) la st q ce (by rw [e1]; exact hH')
      ⟨Nat.le_trans hS.1 (by rw [e1]; exact hz), fun q h1 h2 => by rw [e1, hk q (Nat.lt_of_lt_of_le h1 hS.1) h2]; exact hS.2.1 q h1 h2, fun q hq => by
        rcases List.mem_append.mp hq with h | h
        · exact hS.2.2 q h
        · exact hL9 q h⟩ hL (by rw [e1]; exact hce) hcv hcl T' rfl X'
    exact ⟨t2, hst.trans a1, b1⟩
theorem r_callC {mh : Mh} (g : Gd k own cc) (cv : CSh own idx mh n) (hM : MetC (cL k) (cG k) (cD k) (cBase k) mh lv mc ms As h nx K) (hn : As.length = n) (hstk : stk = As.reverse ++ st) (hnx : cBase k ≤ nx)
    (hR : RmK k lv0 mc0 ms0) (h1 : lv + 1 ≤ lv0) (h2 : cells + mc ≤ mc0) (h3 : slots + ms ≤ ms0) (h4 : Nat.ble mh.1.2.2.1 20 = true) (hW : Nat.ble ((st.map fun v => v.category).sum) 8 = true) (d : decode cc pc = .ok (.invokestatic idx, 3))
    (kk : ∀ (v : Option Value) (h' : Hp) (nx' : Nat), K v h' nx' → nx ≤ nx' → Sf k (cells + mc) (slots + ms) h' nx' (pc + 3) ls (v.toList ++ st)) : Sf k cells slots h nx pc ls stk := by
  obtain ⟨p, l, e, R, s, m, args, below, meth, c, Q, base, G, D, nL⟩ := k
  intro H locs la hH hS hL
  subst hstk
  have hts := g.2.2.2.2.1
  have h49 := Nat.le_of_ble_eq_true h4
  have cw : vx_CSW R s args own idx mh.1.1 mh.1.2.1 mh.1.2.2.1 mh.1.2.2.2 mh.2 (Cond.codeWith mh.1.1 mh.1.2.1 mh.1.2.2.1 mh.1.2.2.2 mh.2 :: UW) (rmOf lv mc ms) mc ms n :=
    ⟨⟨rfl, rfl, Nat.le_trans h1 hR.1, by have := hR.2.1; show 8 + (mh.1.2.2.1 + 11) + 40 * lv ≤ R.locals; have h5 : 40 * lv0 ≤ R.locals := this; omega, pay_in hts (good_all cv.2.2.2.1), List.mem_cons_self⟩, hts _ cv.2.2.2.1, hts _ cv.2.2.1, cv.2.2.2.2.1, fun sig hs9 => by have h6 := cv.2.2.2.2.2; rw [hs9] at h6; exact (Option.some.inj h6).symm, hts _ cv.1, hts _ cv.2.1⟩
  have hr := vx_runSX (g := F0 m pc la (As.reverse ++ st)) (H := H) (locs := locs) (cells := cells) (slots := slots) (l := l) (e := e) (below := below) (meth := meth) (As := As) (rest := st) ⟨g.1, g.2.1, g.2.2.1, g.2.2.2.1, hts⟩ hM cw ⟨PK_blind, fun U hU hW9 => ⟨rfl, hnx, by rw [hU]; exact hH, KK.warm hW9 (by rw [hU]; exact g.2.2.2.2.2.1.kept hS.2.1)⟩⟩ rfl hn hL.1 rfl (lv_room (Nat.le_of_ble_eq_true hW)) d ⟨Nat.le_trans h2 hR.2.2.1, Nat.le_trans h3 hR.2.2.2⟩
  intro T hT X
  rcases hr T hT X with ⟨v, st₀, t, T', L, h0, X', hL9, e1, e2, ⟨⟨v9, h', nx', hv, hK9, hH'⟩, hz, hk⟩, hst⟩ | ⟨q, st₀, t, T', L, E, ce, h0, X', hL9, e1, e2, hF, -⟩
  · cases hv
    rw [h0] at hz hk
    obtain ⟨t2, a1, b1⟩ := kk v h' nx' hK9 (by rw [← hH.1, ← hH'.1]; exact hz) T'.heap (locs ++ L) la (by rw [e1]; exact hH')
      ⟨Nat.le_trans hS.1 (by rw [e1]; exact hz), fun q h1 h2 => by rw [e1, hk q (Nat.lt_of_lt_of_le h1 hS.1) h2]; exact hS.2.1 q h1 h2, fun q hq => by
        rcases List.mem_append.mp hq with h | h
        · exact hS.2.2 q h
        · exact hL9 q h⟩ hL T' rfl X'
    exact ⟨t2, hst t2 a1, b1⟩
  · exact hF.elim
theorem wI13 : Cond.classLink RL 13 eIA ∈ UW := mt1 (i := 235) rfl rfl
theorem wS15 : Cond.classLink RL 15 eIS ∈ UW := mt1 (i := 236) rfl rfl
theorem r_catchI {s0 e0 hp : Nat} {more : List (Nat × Nat × Nat × Nat)} (g : Gd k RL cc) (ht : TbK k ((s0, e0, hp, 13) :: more)) (hc : (Nat.ble s0 pc && Nat.ble (pc + 1) e0) = true) (kk : ∀ q, Sf k cells slots h nx hp ls [.ref q]) : XW k cells slots h nx pc ls eIA := by
  obtain ⟨p, l, e, R, s, m, args, below, meth, c, Q, base, G, D, nL⟩ := k
  intro H locs la rest q ce hH hS hL h1 h2 h3
  have hts := g.2.2.2.2.1
  rw [Bool.and_eq_true] at hc
  have a1 := Nat.le_of_ble_eq_true hc.1
  have a2 := Nat.le_of_ble_eq_true hc.2
  exact vx_catch (own := RL) (name := eIA) g.2.2.2.1 [] ⟨s0, e0, hp, 13⟩ (tableOf more) ht (fun z hz => by cases hz) (by show (decide (s0 ≤ pc) && decide (pc < e0)) = true; rw [decide_eq_true a1, decide_eq_true (show pc < e0 from a2)]; rfl) (by show (13 : Nat) ≠ 0; decide) (hts _ wI13) (va_Nw.use rfl (g.2.2.2.2.2.1.2.1.2.2.2.2.1 _ List.mem_cons_self)) h1 h2 h3 (kk q H locs la hH hS hL)
theorem r_catchS {s0 e0 hp s1 e1 hp1 : Nat} {more : List (Nat × Nat × Nat × Nat)} (g : Gd k RL cc) (ht : TbK k ((s0, e0, hp, 13) :: (s1, e1, hp1, 15) :: more)) (hc : (Nat.ble s1 pc && Nat.ble (pc + 1) e1) = true) (kk : ∀ q, Sf k cells slots h nx hp1 ls [.ref q]) : XW k cells slots h nx pc ls eIS := by
  obtain ⟨p, l, e, R, s, m, args, below, meth, c, Q, base, G, D, nL⟩ := k
  intro H locs la rest q ce hH hS hL h1 h2 h3
  have hts := g.2.2.2.2.1
  rw [Bool.and_eq_true] at hc
  have a1 := Nat.le_of_ble_eq_true hc.1
  have a2 := Nat.le_of_ble_eq_true hc.2
  exact vx_catch (own := RL) (name := eIS) g.2.2.2.1 [⟨s0, e0, hp, 13⟩] ⟨s1, e1, hp1, 15⟩ (tableOf more) ht (fun z hz => by
      rcases List.mem_singleton.mp hz with rfl
      exact Or.inr ⟨by show (13 : Nat) ≠ 0; decide, eIA, hts _ wI13, g.2.2.2.2.2.1.2.1.2.2.2.2.2⟩) (by show (decide (s1 ≤ pc) && decide (pc < e1)) = true; rw [decide_eq_true a1, decide_eq_true (show pc < e1 from a2)]; rfl) (by show (15 : Nat) ≠ 0; decide) (hts _ wS15) (va_Nw.use rfl (g.2.2.2.2.2.1.2.1.2.2.2.2.1 _ (List.mem_cons_of_mem _ List.mem_cons_self))) h1 h2 h3 (kk q H locs la hH hS hL)
end CATCH
