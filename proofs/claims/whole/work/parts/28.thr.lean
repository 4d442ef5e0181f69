/-! 28: throws -/
def thN : List String := ["java/lang/RuntimeException", "java/lang/Exception"]
theorem thrI_ng : (vx_atS RX4 49 eIA thN).all (fun w => goodWord w || exW.any (fun v => decide (v = w))) = true := by decide +kernel
theorem thrS_ng : (vx_atS RX4 59 eIS thN).all (fun w => goodWord w || exW.any (fun v => decide (v = w))) = true := by decide +kernel
theorem thrI_mem : (vx_atS RX4 49 eIA thN).all (fun w => lw_tbl.any (fun v => decide (v = w))) = true := by decide +kernel
theorem thrS_mem : (vx_atS RX4 59 eIS thN).all (fun w => lw_tbl.any (fun v => decide (v = w))) = true := by decide +kernel
theorem thrI_ot : (vx_atS RX4 49 eIA thN).all vx_ot = true := by decide +kernel
theorem thrS_ot : (vx_atS RX4 59 eIS thN).all vx_ot = true := by decide +kernel
theorem exW_ot : exW.all Cond.onTables = true := rfl
theorem thr_hat {L : List Cond} (h1 : L.all (fun w => goodWord w || exW.any (fun v => decide (v = w))) = true) (h2 : L.all (fun w => lw_tbl.any (fun v => decide (v = w))) = true) {args : Array Value} {s : State} (hts : ∀ w ∈ UW, w.before args s = true) (hc : ∀ w ∈ exW, va_Nw w s) : ∀ w ∈ L, w.before args s = true := by
  intro w hw
  have g1 := List.all_eq_true.mp h1 w hw
  have g2 := List.all_eq_true.mp h2 w hw
  by_cases g : goodWord w = true
  · obtain ⟨v, hv, e⟩ := List.any_eq_true.mp g2
    have e2 := of_decide_eq_true e
    rw [e2] at hv
    exact hts w (List.mem_filter.mpr ⟨hv, g⟩)
  · rw [Bool.or_eq_true] at g1
    obtain ⟨v, hv, e⟩ := List.any_eq_true.mp (g1.resolve_left g)
    have e2 := of_decide_eq_true e
    subst e2
    exact va_Nw.use (List.all_eq_true.mp exW_ot v hv) (hc v hv)
/-- .. of a body that may throw -/
def ThrK (k : Cx) (h : Hp) (nx : Nat) (KX : String → Prop) (mc ms : Nat) (K : Option Value → Hp → Nat → Prop) : Prop := match k with
  | (_, l, _, _, s, _, args, below, meth, c, Q, base, G, D, _) => l.stackTraces = false ∧ (∀ x ∈ c.exceptionTable.toList, False) ∧ meth.locks = false ∧ Q = vx_MQ below (QK G D base K) (XKd G D base h nx KX) args s mc ms (ABase base)
theorem MetX_of {l : Launch} {G : Nat → ClassId} {D : va_G} {base : Nat} {mi : Mi} {lv mc ms : Nat} {args : List Value} {h : Hp} {nx : Nat} {K : Option Value → Hp → Nat → Prop} {KX : String → Prop} (hl : l.stackTraces = false) (hy : plainName mi.1.cls = true) (hlen : Nat.ble (enL args).length mi.2.2.1 = true)
    (body : ∀ k : Cx, Gd k mi.1.cls mi.2.1 → RetK k mi.2.2.2 mc ms K → ThrK k h nx KX mc ms K → RmK k lv mc ms → cL k = l → cG k = G → cD k = D → cBase k = base → cName k = mi.1.name → base ≤ nx → Sf k 0 0 h nx 0 (enL args ++ List.replicate (mi.2.2.1 - (enL args).length) none) []) : MetX l G D base mi lv mc ms args h nx K KX := by
  refine vx_ofW (cc := mi.2.1) (maxL := mi.2.2.1) (ret := mi.2.2.2) hy rfl ?_
  intro p e s m a below meth c s₁ B hml ht hv
  obtain ⟨rfl, hnx, hH, hKK⟩ := hv
  have hts := atoms_spec (ws := Cond.code mi.1 mi.2.1 mi.2.2.1 mi.2.2.2 :: UW) B.pre
  rw [lg_entry_eq]
  exact body (p, l, e, _, s, m, args.toArray, below, meth, c, _, base, G, D, mi.2.2.1) ⟨B.exec, B.bytes, hml, findClass_of_methodNamed B.named, fun w hw => hts w (List.mem_cons_of_mem _ hw), hKK, by rw [hH.1]; exact hnx, B.notSynchronized⟩
    ⟨B.returns, fun _ _ _ z => vx_ret z⟩ ⟨hl, ht, B.notSynchronized, rfl⟩ ⟨Nat.le_refl _, Nat.le_refl _, Nat.le_refl _, Nat.le_refl _⟩ rfl rfl rfl rfl (name_of_methodNamed B.named B.method).1 hnx s.heap [] _ hH va_S.rf (lh_entry args (Nat.le_of_ble_eq_true hlen))
section THR
variable {k : Cx} {cc : ByteArray} {cells slots : Nat} {h : Hp} {nx pc : Nat} {ls : List (Option Value)} {st : List Value} {mc ms lv : Nat} {K : Option Value → Hp → Nat → Prop} {KX : String → Prop} {nx0 : Nat}
theorem r_throw {E text : String} {ik is ic : Nat} (g : Gd k RX4 cc) (ht : ThrK k h nx0 KX mc ms K) (hE : KX E) (hn : nx0 ≤ nx) (hq : (is, text) ∈ thrL) (hfit : Bundle.fit E = true) (w1 : Cond.classLink RX4 ik E ∈ UW) (w2 : Cond.initialized E ∈ UW)
    (a1 : (vx_atS RX4 ic E thN).all (fun w => goodWord w || exW.any (fun v => decide (v = w))) = true) (a2 : (vx_atS RX4 ic E thN).all (fun w => lw_tbl.any (fun v => decide (v = w))) = true) (a3 : (vx_atS RX4 ic E thN).all vx_ot = true) 
    (hR : RmK k lv mc ms) (h1 : 6 ≤ lv) (hcl : cells + 1 ≤ mc) (hsl : slots + 6 ≤ ms) (hW : Nat.ble ((st.map fun v => v.category).sum) 8 = true)
    (d0 : decode cc pc = .ok (.new ik, 3)) (d3 : decode cc (pc + 3) = .ok (.dup, 1)) (d4 : decode cc (pc + 4) = .ok (.ldc is, 2)) (d6 : decode cc (pc + 6) = .ok (.invokespecial ic, 3)) (d9 : decode cc (pc + 9) = .ok (.athrow, 1)) : Sf k cells slots h nx pc ls st := by
  obtain ⟨p, l, e, R, s, m, args, below, meth, c, Q, base, G, D, nL⟩ := k
  obtain ⟨hl, ho, hlk, rfl⟩ := ht
  intro H locs la hH hS hL
  have hts := g.2.2.2.2.1
  have hkk := g.2.2.2.2.2.1
  obtain ⟨sa, hsa⟩ := hkk.2.1.2.2.2.1 _ hq
  have h5 : 40 * lv ≤ R.locals := hR.2.1
  have h6 : lv ≤ R.frames := hR.1
  have hw8 := Nat.le_of_ble_eq_true hW
  exact vx_throwS (names := thN) (text := text) (sa := sa) g.1 g.2.1 hl g.2.2.2.1 hfit (by decide +kernel) (hts _ w1) (hts _ w2) hsa (thr_hat a1 a2 hts hkk.2.1.2.2.2.2.1)
    (fun w hw => by
      rcases List.mem_cons.mp hw with rfl | hw
      · rfl
      · rcases List.mem_cons.mp hw with rfl | hw
        · rfl
        · exact List.all_eq_true.mp a3 w hw)
    hkk.2.2.1 hkk.2.2.2 hS (hL.1.trans g.2.2.1.symm) d0 d3 d4 d6 d9 (fun x hx => (ho x hx).elim) (by show 2 + 3 < R.frames; omega) (by show _ + (13 * (2 + 1) + 43) ≤ R.locals; omega) (Nat.le_trans hcl hR.2.2.1) (Nat.le_trans hsl hR.2.2.2) hlk
    (fun t hal hsz hq9 => ⟨hE, ⟨t.heap.size, by rw [hH.1] at hsz; exact Nat.le_trans hn hsz, rfl, fun b y hb => (hH.2 b y hb).kept (hq9 b (by rw [hH.1]; exact hp_lt hH b y hb))⟩, Nat.le_trans hS.1 hsz, fun q z1 z2 => (hq9 q (Nat.lt_of_lt_of_le z1 hS.1)).trans (hS.2.1 q z1 z2)⟩)
    (fun z hz => hS.2.2 z hz) hcl hsl
theorem r_thrI {text : String} {is : Nat} (g : Gd k RX4 cc) (ht : ThrK k h nx0 KX mc ms K) (hE : KX eIA) (hn : nx0 ≤ nx) (hq : (is, text) ∈ thrL) (hR : RmK k lv mc ms) (h1 : 6 ≤ lv) (hcl : cells + 1 ≤ mc) (hsl : slots + 6 ≤ ms) (hW : Nat.ble ((st.map fun v => v.category).sum) 8 = true)
    (d0 : decode cc pc = .ok (.new 45, 3)) (d3 : decode cc (pc + 3) = .ok (.dup, 1)) (d4 : decode cc (pc + 4) = .ok (.ldc is, 2)) (d6 : decode cc (pc + 6) = .ok (.invokespecial 49, 3)) (d9 : decode cc (pc + 9) = .ok (.athrow, 1)) : Sf k cells slots h nx pc ls st :=
  r_throw g ht hE hn hq (by decide +kernel) nX4_45.1 nX4_45.2.2 thrI_ng thrI_mem thrI_ot hR h1 hcl hsl hW d0 d3 d4 d6 d9
theorem r_thrS {text : String} {is : Nat} (g : Gd k RX4 cc) (ht : ThrK k h nx0 KX mc ms K) (hE : KX eIS) (hn : nx0 ≤ nx) (hq : (is, text) ∈ thrL) (hR : RmK k lv mc ms) (h1 : 6 ≤ lv) (hcl : cells + 1 ≤ mc) (hsl : slots + 6 ≤ ms) (hW : Nat.ble ((st.map fun v => v.category).sum) 8 = true)
    (d0 : decode cc pc = .ok (.new 55, 3)) (d3 : decode cc (pc + 3) = .ok (.dup, 1)) (d4 : decode cc (pc + 4) = .ok (.ldc is, 2)) (d6 : decode cc (pc + 6) = .ok (.invokespecial 59, 3)) (d9 : decode cc (pc + 9) = .ok (.athrow, 1)) : Sf k cells slots h nx pc ls st :=
  r_throw g ht hE hn hq (by decide +kernel) nX4_55.1 nX4_55.2.2 thrS_ng thrS_mem thrS_ot hR h1 hcl hsl hW d0 d3 d4 d6 d9
end THR
