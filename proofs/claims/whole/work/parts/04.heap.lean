/-! 04: rules of the heap, of returns and of calls -/
theorem nI_j {i : Int32} {j n : Nat} (e : i = nI j) (hj : j < n) (hn : n < 2 ^ 31) : vp_in i n ∧ i.toNatClampNeg = j := by
  subst e
  exact ⟨vp_in_nI hj hn, nI_clamp (by omega)⟩
theorem hp1 {G : Nat → ClassId} {D : va_G} {nx : Nat} {h : Hp} {H : Heap} {a : Nat} {x : PE} (hH : HPok G D nx h H) (ha : h a = some x) : va_P D vwCl [(a, toE G x)] H := by
  intro j q hq
  match j, hq with
  | 0, hq => cases hq; exact hH.2 a x ha
  | j + 1, hq => simp at hq
theorem hp_lt {G : Nat → ClassId} {D : va_G} {nx : Nat} {h : Hp} {H : Heap} (hH : HPok G D nx h H) : ∀ b x, h b = some x → b < nx := fun b x hb => by
  have := (hH.2 b x hb).lt
  rw [hH.1] at this
  exact this
theorem hp_put {G : Nat → ClassId} {D : va_G} {nx : Nat} {h : Hp} {H H1 : Heap} {a : Nat} {x : PE} (hH : HPok G D nx h H) (z : H1.size = H.size) (oq : ∀ q : Nat, q ≠ a → H1[q]? = H[q]?) (he : va_at D vwCl (a, toE G x) H1) : HPok G D nx (hpU h a x) H1 := by
  refine ⟨z.trans hH.1, fun b y hb => ?_⟩
  by_cases e : b = a
  · subst e
    rw [hpU_eq] at hb
    cases hb
    exact he
  · rw [hpU_ne e] at hb
    exact (hH.2 b y hb).kept (oq b e)
theorem hp_new {G : Nat → ClassId} {D : va_G} {nx : Nat} {h : Hp} {H H1 : Heap} {x : PE} (hH : HPok G D nx h H) (z : H1.size = nx + 1) (oq : ∀ q : Nat, q < nx → H1[q]? = H[q]?) (he : va_at D vwCl (nx, toE G x) H1) : HPok G D (nx + 1) (hpU h nx x) H1 := by
  refine ⟨z, fun b y hb => ?_⟩
  by_cases e : b = nx
  · subst e
    rw [hpU_eq] at hb
    cases hb
    exact he
  · rw [hpU_ne e] at hb
    exact (hH.2 b y hb).kept (oq b (hp_lt hH b y hb))
section HEAP
variable {k : Cx} {own : String} {cc : ByteArray} {cells slots : Nat} {h : Hp} {nx pc : Nat} {ls : List (Option Value)} {st : List Value}
theorem r_getf {idx ci kf a : Nat} {ty : FieldType} {fin : Bool} {fs : List Value} {v : Value} (g : Gd k own cc) (f : FL own idx ci kf ty fin) (ha : h a = some (eO ci fs)) (hv : fs[kf]? = some v) (d : decode cc pc = .ok (.getfield idx, 3)) (kk : Sf k cells slots h nx (pc + 3) ls (v :: st)) : Sf k cells slots h nx pc ls (.ref a :: st) := by
  obtain ⟨p, l, e, R, s, m, args, below, meth, c, Q, base, G, D, nL⟩ := k
  obtain ⟨C, T, N, hc, hk, hw, -, -, hC⟩ := f
  intro H locs la hH hS hL
  exact va_get (ci := ci) (fs := fs) g.1 g.2.1 g.2.2.2.2.1 (cls_in hc) g.2.2.2.1 g.2.2.2.2.2.1.1 (hp1 hH ha) 0 rfl hc kf hk (g.2.2.2.2.1 _ hw) (fun x q => by rw [hC] at q; exact q) hv d (kk H locs la hH hS hL)
theorem r_putf {idx ci kf a : Nat} {ty : FieldType} {fs : List Value} {v : Value} (g : Gd k own cc) (f : FL own idx ci kf ty false) (ha : h a = some (eO ci fs)) (hb : cBase k ≤ a) (hl : kf < fs.length) (hn : narrow ty v = v) (hfit : fits ty v = true) (d : decode cc pc = .ok (.putfield idx, 3)) (kk : Sf k cells slots (hpU h a (eO ci (fs.set kf v))) nx (pc + 3) ls st) : Sf k cells slots h nx pc ls (v :: .ref a :: st) := by
  obtain ⟨p, l, e, R, s, m, args, below, meth, c, Q, base, G, D, nL⟩ := k
  obtain ⟨C, T, N, hc, hk, hw, hd, hfin, hC⟩ := f
  intro H locs la hH hS hL
  obtain ⟨ty0, hty⟩ := cls_ty hc
  have hap := va_apart (own := own) g.2.2.2.2.1 (cls_in hc) ty0 hty (cls_nm hc) g.2.2.2.2.2.1.1 hc
  obtain ⟨r, h1, cell, q1, q2, q3, q4⟩ := hH.2 a _ ha
  have hr : r = (C, T, N) := Option.some.inj (h1.symm.trans hc)
  subst hr
  obtain ⟨hSl, hfc, kC, hkC, hkind⟩ := g.2.2.2.2.2.1.1.1 ci _ hc
  obtain ⟨cf, kf9, fi, f9, hi, hsl⟩ := hSl kf hk
  have hlay := g.2.2.2.2.1 _ (cls_in hc _ (u_in_lay hk))
  unfold u_lay at hlay
  rw [if_neg (by rw [hfin]; decide)] at hlay
  have hst := (u_facts hfc hkC (u_lays g.2.2.2.2.1 (cls_in hc) hk) hi).1
  have h6 := u_store hfc hkC hkind hlay hi hd hn hfit
  refine W.putK g.1 g.2.1 (f := f9) ⟨g.2.2.2.1, g.2.2.2.2.1 _ hw, ⟨_, _, _, by rw [hC] at hi; exact hi⟩, hst⟩ (by rw [q2]; exact h6) q1 q3 (by rw [hsl]; exact k2_hasslot (q4 kf hk)) rfl rfl d fun H' e1 e2 e3 => ?_
  rw [hsl] at e1 ⊢
  exact kk H' _ la (hp_put hH e2 e3 ⟨_, hc, t_OB.to (V := updV (vp_V fs) kf v) ⟨_, e1, q2, q3, t_set q4 hap hk v⟩ (fun j _ => vp_updV_set hl v j)⟩) (hS.put e2 e3 hb) hL
/-- a final field, in its class's constructor -/
theorem r_putF {idx ci kf a : Nat} {ty : FieldType} {fs : List Value} {v : Value} (g : Gd k own cc) (f : FL own idx ci kf ty true) (hown9 : (vwCl[ci]?).map (fun q => q.1) = some own) (hnm9 : cName k = "<init>") (ha : h a = some (eO ci fs)) (hb : cBase k ≤ a) (hl : kf < fs.length) (hn : narrow ty v = v) (hfit : fits ty v = true) (d : decode cc pc = .ok (.putfield idx, 3)) (kk : Sf k cells slots (hpU h a (eO ci (fs.set kf v))) nx (pc + 3) ls st) : Sf k cells slots h nx pc ls (v :: .ref a :: st) := by
  obtain ⟨p, l, e, R, s, m, args, below, meth, c, Q, base, G, D, nL⟩ := k
  obtain ⟨C, T, N, hc, hk, hw, hd, hfin, hC⟩ := f
  intro H locs la hH hS hL
  have hCo : C = own := by rw [hc] at hown9; exact Option.some.inj hown9
  subst hCo
  obtain ⟨ty0, hty⟩ := cls_ty hc
  have hap := va_apart (own := C) g.2.2.2.2.1 (cls_in hc) ty0 hty (cls_nm hc) g.2.2.2.2.2.1.1 hc
  obtain ⟨r, h1, cell, q1, q2, q3, q4⟩ := hH.2 a _ ha
  have hr : r = (C, T, N) := Option.some.inj (h1.symm.trans hc)
  subst hr
  obtain ⟨hSl, hfc, kC, hkC, hkind⟩ := g.2.2.2.2.2.1.1.1 ci _ hc
  obtain ⟨cf, kf9, fi, f9, hi, hsl⟩ := hSl kf hk
  have hlay := g.2.2.2.2.1 _ (cls_in hc _ (u_in_lay hk))
  unfold u_lay at hlay
  rw [if_pos hfin] at hlay
  have hst := (u_facts hfc hkC (u_lays g.2.2.2.2.1 (cls_in hc) hk) hi).1
  have hcf : m.cls = cf := by
    obtain ⟨_, _, c', _, _, _, -, -, hf', -, -, -, hown2, -⟩ := Cond.laysFinal_spec hlay
    have e1 : c' = cf := by have := hi.symm.trans hf'; simp at this; exact this.1.symm
    rw [hC] at hown2
    rw [← e1]; exact Option.some.inj (g.2.2.2.1.symm.trans hown2)
  have h6 := u_fits hfc hkC hkind (Or.inr hlay) hi hd hn hfit
  refine W.putFinK g.1 g.2.1 g.2.2.2.1 (g.2.2.2.2.1 _ hw) (by rw [hC] at hi; exact hi) hst hcf hnm9 (by rw [q2]; exact h6) q1 q3 (by rw [hsl]; exact k2_hasslot (q4 kf hk)) rfl rfl d fun H' e1 e2 e3 => ?_
  rw [hsl] at e1 ⊢
  exact kk H' _ la (hp_put hH e2 e3 ⟨_, hc, t_OB.to (V := updV (vp_V fs) kf v) ⟨_, e1, q2, q3, t_set q4 hap hk v⟩ (fun j _ => vp_updV_set hl v j)⟩) (hS.put e2 e3 hb) hL
theorem r_iald {a n j : Nat} {f : Nat → Int32} {i : Int32} (g : Gd k own cc) (ha : h a = some (eI n f)) (hi : i = nI j) (hj : j < n) (hn : n < 2 ^ 31) (d : decode cc pc = .ok (.iaload, 1)) (kk : Sf k cells slots h nx (pc + 1) ls (.int (f j) :: st)) : Sf k cells slots h nx pc ls (.int i :: .ref a :: st) := by
  obtain ⟨p, l, e, R, s, m, args, below, meth, c, Q, base, G, D, nL⟩ := k
  intro H locs la hH hS hL
  obtain ⟨h1, h2⟩ := nI_j hi hj hn
  subst h2
  exact va_iald g.1 g.2.1 g.2.2.2.2.2.1.1 (hp1 hH ha) 0 0 rfl rfl h1 d (kk H locs la hH hS hL)
theorem r_zald {a n j : Nat} {f : Nat → Int32} {i : Int32} (g : Gd k own cc) (ha : h a = some (eZ n f)) (hi : i = nI j) (hj : j < n) (hn : n < 2 ^ 31) (d : decode cc pc = .ok (.baload, 1)) (kk : Sf k cells slots h nx (pc + 1) ls (.int (f j) :: st)) : Sf k cells slots h nx pc ls (.int i :: .ref a :: st) := by
  obtain ⟨p, l, e, R, s, m, args, below, meth, c, Q, base, G, D, nL⟩ := k
  intro H locs la hH hS hL
  obtain ⟨h1, h2⟩ := nI_j hi hj hn
  subst h2
  exact va_zald g.1 g.2.1 g.2.2.2.2.2.1.1 (hp1 hH ha) 0 2 rfl rfl h1 d (kk H locs la hH hS hL)
theorem r_lald {a n j : Nat} {f : Nat → Int64} {i : Int32} (g : Gd k own cc) (ha : h a = some (eJ n f)) (hi : i = nI j) (hj : j < n) (hn : n < 2 ^ 31) (d : decode cc pc = .ok (.laload, 1)) (kk : Sf k cells slots h nx (pc + 1) ls (.long (f j) :: st)) : Sf k cells slots h nx pc ls (.int i :: .ref a :: st) := by
  obtain ⟨p, l, e, R, s, m, args, below, meth, c, Q, base, G, D, nL⟩ := k
  intro H locs la hH hS hL
  obtain ⟨h1, h2⟩ := nI_j hi hj hn
  subst h2
  exact va_lald g.1 g.2.1 g.2.2.2.2.2.1.1 (hp1 hH ha) 0 1 rfl rfl h1 d (kk H locs la hH hS hL)
theorem r_aald {a n j t : Nat} {f : Nat → Option Nat} {i : Int32} (g : Gd k own cc) (ha : h a = some (eQ t n f)) (ht : t < 2) (hi : i = nI j) (hj : j < n) (hn : n < 2 ^ 31) (d : decode cc pc = .ok (.aaload, 1)) (kk : Sf k cells slots h nx (pc + 1) ls (va_rf (f j) :: st)) : Sf k cells slots h nx pc ls (.int i :: .ref a :: st) := by
  obtain ⟨p, l, e, R, s, m, args, below, meth, c, Q, base, G, D, nL⟩ := k
  intro H locs la hH hS hL
  obtain ⟨h1, h2⟩ := nI_j hi hj hn
  subst h2
  match t, ht with
  | 0, _ => exact va_aldq (C := RX1) g.1 g.2.1 g.2.2.2.2.2.1.1 (hp1 hH ha) 0 3 rfl rfl h1 d (kk H locs la hH hS hL)
  | 1, _ => exact va_aldq (C := RX2) g.1 g.2.1 g.2.2.2.2.2.1.1 (hp1 hH ha) 0 4 rfl rfl h1 d (kk H locs la hH hS hL)
theorem arr_in {cA n : Nat} {f : Nat → Value} {i : Int32} (h : vp_in i n) : ¬ (i < 0 ∨ (arrV cA n f).slots.size ≤ i.toNatClampNeg) := by rw [arrV_size]; exact h
theorem updV_i (f : Nat → Int32) (j : Nat) (x : Int32) : updV (fun q => Value.int (f q)) j (.int x) = fun q => .int (upd f j x q) := by
  funext q
  by_cases hq : q = j <;> simp [updV, upd, hq]
theorem updV_l (f : Nat → Int64) (j : Nat) (x : Int64) : updV (fun q => Value.long (f q)) j (.long x) = fun q => .long (vp_updL f j x q) := by
  funext q
  by_cases hq : q = j <;> simp [updV, vp_updL, hq]
theorem updV_q (f : Nat → Option Nat) (j : Nat) (x : Option Nat) : updV (fun q => va_rf (f q)) j (va_rf x) = fun q => va_rf (va_up f j x q) := by
  funext q
  by_cases hq : q = j <;> simp [updV, va_up, hq]
theorem r_iast {a n j : Nat} {f : Nat → Int32} {i x : Int32} (g : Gd k own cc) (ha : h a = some (eI n f)) (hb : cBase k ≤ a) (hi : i = nI j) (hj : j < n) (hn : n < 2 ^ 31) (d : decode cc pc = .ok (.iastore, 1)) (kk : Sf k cells slots (hpU h a (eI n (upd f j x))) nx (pc + 1) ls st) : Sf k cells slots h nx pc ls (.int x :: .int i :: .ref a :: st) := by
  obtain ⟨p, l, e, R, s, m, args, below, meth, c, Q, base, G, D, nL⟩ := k
  intro H locs la hH hS hL
  obtain ⟨h1, h2⟩ := nI_j hi hj hn
  subst h2
  refine W.iast g.1 g.2.1 (hH.2 a _ ha) ((g.2.2.2.2.2.1.1.2 0 _ rfl).1 n (fun j => .int (f j))) (fun q => by cases q) (arr_in h1) rfl rfl d fun H1 e1 z oq => ?_
  refine kk H1 _ la (hp_put hH z oq ?_) (hS.put z oq hb) hL
  rw [show vp_cell (G 0) (n, Sum.inl f) = arrV (G 0) n (fun q => .int (f q)) from rfl, arrV_store, updV_i] at e1
  exact e1
theorem r_zast {a n j : Nat} {f : Nat → Int32} {i x : Int32} (g : Gd k own cc) (ha : h a = some (eZ n f)) (hb : cBase k ≤ a) (hi : i = nI j) (hj : j < n) (hn : n < 2 ^ 31) (hx : narrow .boolean (.int x) = .int x) (d : decode cc pc = .ok (.bastore, 1)) (kk : Sf k cells slots (hpU h a (eZ n (upd f j x))) nx (pc + 1) ls st) : Sf k cells slots h nx pc ls (.int x :: .int i :: .ref a :: st) := by
  obtain ⟨p, l, e, R, s, m, args, below, meth, c, Q, base, G, D, nL⟩ := k
  intro H locs la hH hS hL
  obtain ⟨h1, h2⟩ := nI_j hi hj hn
  subst h2
  refine W.zast g.1 g.2.1 (hH.2 a _ ha) ((g.2.2.2.2.2.1.1.2 2 _ rfl).1 n (fun j => .int (f j))) (fun q => by cases q) (arr_in h1) rfl rfl d fun H1 e1 z oq => ?_
  refine kk H1 _ la (hp_put hH z oq ?_) (hS.put z oq hb) hL
  rw [show vp_cell (G 2) (n, Sum.inl f) = arrV (G 2) n (fun q => .int (f q)) from rfl, hx, arrV_store, updV_i] at e1
  exact e1
theorem r_last {a n j : Nat} {f : Nat → Int64} {i : Int32} {x : Int64} (g : Gd k own cc) (ha : h a = some (eJ n f)) (hb : cBase k ≤ a) (hi : i = nI j) (hj : j < n) (hn : n < 2 ^ 31) (d : decode cc pc = .ok (.lastore, 1)) (kk : Sf k cells slots (hpU h a (eJ n (vp_updL f j x))) nx (pc + 1) ls st) : Sf k cells slots h nx pc ls (.long x :: .int i :: .ref a :: st) := by
  obtain ⟨p, l, e, R, s, m, args, below, meth, c, Q, base, G, D, nL⟩ := k
  intro H locs la hH hS hL
  obtain ⟨h1, h2⟩ := nI_j hi hj hn
  subst h2
  refine W.last g.1 g.2.1 (hH.2 a _ ha) ((g.2.2.2.2.2.1.1.2 1 _ rfl).1 n (fun j => .long (f j))) (fun q => by cases q) (arr_in h1) rfl rfl d fun H1 e1 z oq => ?_
  refine kk H1 _ la (hp_put hH z oq ?_) (hS.put z oq hb) hL
  rw [show vp_cell (G 1) (n, Sum.inr (Sum.inl f)) = arrV (G 1) n (fun q => .long (f q)) from rfl, arrV_store, updV_l] at e1
  exact e1
theorem r_aast {a n j t v : Nat} {f : Nat → Option Nat} {i : Int32} {vs : List Value} (g : Gd k own cc) (ha : h a = some (eQ t n f)) (ht : t < 2) (hv : h v = some (eO (t + 1) vs)) (hb : cBase k ≤ a) (hi : i = nI j) (hj : j < n) (hn : n < 2 ^ 31) (d : decode cc pc = .ok (.aastore, 1)) (kk : Sf k cells slots (hpU h a (eQ t n (va_up f j (some v)))) nx (pc + 1) ls st) : Sf k cells slots h nx pc ls (.ref v :: .int i :: .ref a :: st) := by
  obtain ⟨p, l, e, R, s, m, args, below, meth, c, Q, base, G, D, nL⟩ := k
  intro H locs la hH hS hL
  obtain ⟨h1, h2⟩ := nI_j hi hj hn
  subst h2
  obtain ⟨r', hr', cellV, g1, g2, g3, -⟩ := hH.2 v _ hv
  obtain ⟨C, hC, hty⟩ : ∃ C : String, r'.1 = C ∧ (tysG G)[t + 3]? = some (G (t + 3), .object C) := by
    match t, ht, hr' with
    | 0, _, hr' => cases hr'; exact ⟨_, rfl, rfl⟩
    | 1, _, hr' => cases hr'; exact ⟨_, rfl, rfl⟩
  subst hC
  have hcls := (g.2.2.2.2.2.1.1.1 (t + 1) r' hr').2
  obtain ⟨kA, comp, k1, k2, k3, -⟩ := (g.2.2.2.2.2.1.1.2 (t + 3) _ hty).2
  have hcomp : comp = D.1 (t + 1) := Option.some.inj (k3.symm.trans hcls.1)
  subst hcomp
  obtain ⟨kC, hkC, -⟩ := hcls.2
  refine W.aast g.1 g.2.1 (hH.2 a _ ha) (fun q h => by cases h) (fun h => by cases h) k1 k2 rfl hkC ⟨fun q => h1 (Or.inl q), by show _ < (arrV _ _ _).slots.size; rw [arrV_size]; exact hj⟩ g1 (fun q h => by rw [g3] at h; cases h) (by rw [g2]; exact hkC) (by rw [g2]; exact va_assign hcls) rfl rfl d fun H1 e1 z oq => ?_
  refine kk H1 _ la (hp_put hH z oq ?_) (hS.put z oq hb) hL
  rw [show vp_cell (G (t + 3)) (n, Sum.inr (Sum.inr (Sum.inr (Sum.inr f)))) = arrV (G (t + 3)) n (fun q => va_rf (f q)) from rfl, arrV_store, show Value.ref v = va_rf (some v) from rfl, updV_q] at e1
  exact e1
theorem r_aastN {a n j t : Nat} {f : Nat → Option Nat} {i : Int32} (g : Gd k own cc) (ha : h a = some (eQ t n f)) (ht : t < 2) (hb : cBase k ≤ a) (hi : i = nI j) (hj : j < n) (hn : n < 2 ^ 31) (d : decode cc pc = .ok (.aastore, 1)) (kk : Sf k cells slots (hpU h a (eQ t n (va_up f j none))) nx (pc + 1) ls st) : Sf k cells slots h nx pc ls (.null :: .int i :: .ref a :: st) := by
  obtain ⟨p, l, e, R, s, m, args, below, meth, c, Q, base, G, D, nL⟩ := k
  intro H locs la hH hS hL
  obtain ⟨h1, h2⟩ := nI_j hi hj hn
  subst h2
  obtain ⟨C, hty⟩ : ∃ C : String, (tysG G)[t + 3]? = some (G (t + 3), .object C) := by
    match t, ht with
    | 0, _ => exact ⟨_, rfl⟩
    | 1, _ => exact ⟨_, rfl⟩
  refine va_WaastN (C := C) g.1 g.2.1 (hH.2 a _ ha) ((g.2.2.2.2.2.1.1.2 (t + 3) _ hty).1 n (fun j => va_rf (f j))) (fun h => by cases h) (arr_in h1) rfl rfl d fun H1 e1 z oq => ?_
  refine kk H1 _ la (hp_put hH z oq ?_) (hS.put z oq hb) hL
  rw [show vp_cell (G (t + 3)) (n, Sum.inr (Sum.inr (Sum.inr (Sum.inr f)))) = arrV (G (t + 3)) n (fun q => va_rf (f q)) from rfl, arrV_store, show Value.null = va_rf none from rfl, updV_q] at e1
  exact e1
/-- the length of an array -/
theorem r_alen {a : Nat} {t n : Nat} {x : (Nat → Int32) ⊕ (Nat → Int64) ⊕ (Nat → UInt32) ⊕ (Nat → UInt64) ⊕ (Nat → Option Nat)} (g : Gd k own cc) (ha : h a = some (.inl (t, n, x))) (ht : t < 5) (d : decode cc pc = .ok (.arraylength, 1)) (kk : Sf k cells slots h nx (pc + 1) ls (.int (nI n) :: st)) : Sf k cells slots h nx pc ls (.ref a :: st) := by
  obtain ⟨p, l, e, R, s, m, args, below, meth, c, Q, base, G, D, nL⟩ := k
  intro H locs la hH hS hL
  obtain ⟨ty, hty⟩ : ∃ ty, (tysG G)[t]? = some (G t, ty) := by
    match t, ht with
    | 0, _ => exact ⟨_, rfl⟩
    | 1, _ => exact ⟨_, rfl⟩
    | 2, _ => exact ⟨_, rfl⟩
    | 3, _ => exact ⟨_, rfl⟩
    | 4, _ => exact ⟨_, rfl⟩
  exact va_alen (x := (n, x)) g.1 g.2.1 g.2.2.2.2.2.1.1 (hp1 hH ha) 0 t rfl hty rfl d (kk H locs la hH hS hL)
theorem newa_core {atype : ArrayType} {ty : FieldType} {t N : Nat} {n : Int32} {x : vp_A} (g : Gd k own cc) (hw : Cond.arrayClass (newarray.typeOf atype) ∈ UW) (hty : newarray.typeOf atype = ty) (htG : ∀ G : Nat → ClassId, (tysG G)[t]? = some (G t, ty)) (hRA : ∀ (U : State) (cA : ClassId), va_RA U cA ty → U.vm.findClass ("[" ++ ty.toString) = some cA)
    (hx : ∀ cA : ClassId, vp_cell cA x = arrV cA N (fun _ => defaultValue ty)) (hn : n = nI N) (hN : N ≤ 2000) (hby : componentBytes ty ≤ 8) (hc : cells + 1 ≤ (cRoom k).cells) (hs : slots + N ≤ (cRoom k).slots) (d : decode cc pc = .ok (.newarray atype, 2))
    (kk : (∀ b y, h b = some y → b < nx) → Sf k (cells + 1) (slots + N) (hpU h nx (.inl (t, x))) (nx + 1) (pc + 2) ls (.ref nx :: st)) : Sf k cells slots h nx pc ls (.int n :: st) := by
  obtain ⟨p, l, e, R, s, m, args, below, meth, c, Q, base, G, D, nL⟩ := k
  intro H locs la hH hS hL
  subst hty
  subst hn
  have hcl : (nI N).toNatClampNeg = N := nI_clamp (by omega)
  refine va_newaK g.1 g.2.1 (g.2.2.2.2.1 _ hw) rfl d rfl (nI_pos (by omega)) hcl (by have := Nat.mul_le_mul hN hby; omega) hc hs hH.1 fun H1 cA e1 z1 o1 hAr hNm => ?_
  have hcA : cA = G t := Option.some.inj (hNm.symm.trans (hRA _ _ (g.2.2.2.2.2.1.1.2 t _ (htG G)).2))
  subst hcA
  refine kk (hp_lt hH) H1 _ la (hp_new hH z1 o1 ?_) ⟨by rw [z1, ← hH.1]; exact Nat.le_succ_of_le hS.1, fun q h1 h2 => (o1 q (by rw [← hH.1]; exact Nat.lt_of_lt_of_le h1 hS.1)).trans (hS.2.1 q h1 h2), hS.2.2⟩ hL
  show H1[nx]? = some (vp_cell _ _)
  rw [hx]
  exact e1
theorem r_newaI {N : Nat} {n : Int32} (g : Gd k own cc) (hn : n = nI N) (hN : N ≤ 2000) (hc : cells + 1 ≤ (cRoom k).cells) (hs : slots + N ≤ (cRoom k).slots) (d : decode cc pc = .ok (.newarray .int, 2)) (kk : (∀ b y, h b = some y → b < nx) → Sf k (cells + 1) (slots + N) (hpU h nx (eI N (fun _ => 0))) (nx + 1) (pc + 2) ls (.ref nx :: st)) : Sf k cells slots h nx pc ls (.int n :: st) :=
  newa_core (atype := .int) (x := (N, .inl (fun _ => 0))) (t := 0) (ty := .int) g arr_int rfl (fun _ => rfl) (fun _ _ h => h) (fun _ => rfl) hn hN (by decide) hc hs d kk
theorem r_newaJ {N : Nat} {n : Int32} (g : Gd k own cc) (hn : n = nI N) (hN : N ≤ 2000) (hc : cells + 1 ≤ (cRoom k).cells) (hs : slots + N ≤ (cRoom k).slots) (d : decode cc pc = .ok (.newarray .long, 2)) (kk : (∀ b y, h b = some y → b < nx) → Sf k (cells + 1) (slots + N) (hpU h nx (eJ N (fun _ => 0))) (nx + 1) (pc + 2) ls (.ref nx :: st)) : Sf k cells slots h nx pc ls (.int n :: st) :=
  newa_core (atype := .long) (x := (N, .inr (.inl (fun _ => 0)))) (t := 1) (ty := .long) g arr_long rfl (fun _ => rfl) (fun _ _ h => h) (fun _ => rfl) hn hN (by decide) hc hs d kk
theorem r_newaZ {N : Nat} {n : Int32} (g : Gd k own cc) (hn : n = nI N) (hN : N ≤ 2000) (hc : cells + 1 ≤ (cRoom k).cells) (hs : slots + N ≤ (cRoom k).slots) (d : decode cc pc = .ok (.newarray .boolean, 2)) (kk : (∀ b y, h b = some y → b < nx) → Sf k (cells + 1) (slots + N) (hpU h nx (eZ N (fun _ => 0))) (nx + 1) (pc + 2) ls (.ref nx :: st)) : Sf k cells slots h nx pc ls (.int n :: st) :=
  newa_core (atype := .boolean) (x := (N, .inl (fun _ => 0))) (t := 2) (ty := .boolean) g arr_boolean rfl (fun _ => rfl) (fun _ _ h => h) (fun _ => rfl) hn hN (by decide) hc hs d kk
theorem r_newaQ {N t idx : Nat} {C : String} {n : Int32} (g : Gd k own cc) (hw : Cond.classLink own idx C ∈ UW) (htC : t = 0 ∧ C = RX1 ∨ t = 1 ∧ C = RX2) (hn : n = nI N) (hN : N ≤ 2000) (hc : cells + 1 ≤ (cRoom k).cells) (hs : slots + N ≤ (cRoom k).slots) (d : decode cc pc = .ok (.anewarray idx, 3)) (kk : (∀ b y, h b = some y → b < nx) → Sf k (cells + 1) (slots + N) (hpU h nx (eQ t N (fun _ => none))) (nx + 1) (pc + 3) ls (.ref nx :: st)) : Sf k cells slots h nx pc ls (.int n :: st) := by
  obtain ⟨p, l, e, R, s, m, args, below, meth, c, Q, base, G, D, nL⟩ := k
  intro H locs la hH hS hL
  subst hn
  have hcl : (nI N).toNatClampNeg = N := nI_clamp (by omega)
  obtain ⟨hAO, hty⟩ : va_AO C s ∧ (tysG G)[t + 3]? = some (G (t + 3), .object C) := by
    rcases htC with ⟨rfl, rfl⟩ | ⟨rfl, rfl⟩
    · exact ⟨g.2.2.2.2.2.1.2.1.1, rfl⟩
    · exact ⟨g.2.2.2.2.2.1.2.1.2.1, rfl⟩
  refine W.anew g.1 g.2.1 g.2.2.2.1 (g.2.2.2.2.1 _ hw) (va_AO.use hAO) rfl d rfl (nI_pos (by omega)) (by rw [hcl]; omega) hc (by rw [hcl]; exact hs) fun cA kA comp f1 f2 f3 f4 => ?_
  rw [hcl]
  obtain ⟨kA9, comp9, -, -, -, k4⟩ := (g.2.2.2.2.2.1.1.2 (t + 3) _ hty).2
  have hcA : cA = G (t + 3) := Option.some.inj (f1.symm.trans k4)
  subst hcA
  have hz := hH.1
  subst hz
  refine kk (hp_lt hH) _ _ la (hp_new hH (by rw [Array.size_push]) (fun q hq => by rw [Array.getElem?_push, if_neg (Nat.ne_of_lt hq)]) ?_) ⟨by rw [Array.size_push]; exact Nat.le_succ_of_le hS.1, fun q h1 h2 => by rw [Array.getElem?_push, if_neg (Nat.ne_of_lt (Nat.lt_of_lt_of_le h1 hS.1))]; exact hS.2.1 q h1 h2, hS.2.2⟩ hL
  show (H.push _)[H.size]? = some (vp_cell _ _)
  rw [Array.getElem?_push_size, ← show arrV (G (t + 3)) N (fun _ => Value.null) = vp_cell (G (t + 3)) (N, .inr (.inr (.inr (.inr (fun _ => none))))) from rfl, ← arrV_new]
theorem r_new {idx ci N : Nat} {C : String} {T : u_T} {fs : List Value} (g : Gd k own cc) (hw : Cond.classLink own idx C ∈ UW ∧ Cond.instantiable C N ∈ UW ∧ Cond.initialized C ∈ UW) (hc : vwCl[ci]? = some (C, T, N)) (ty : Nat → FieldType) (hty : ∀ k, k < N → parseFieldDescriptor (T k).2.2.1 = some (ty k)) (hfs : ∀ j, j < N → defaultValue (ty j) = vp_V fs j) (hcl : cells + 1 ≤ (cRoom k).cells) (hs : slots + N ≤ (cRoom k).slots) (d : decode cc pc = .ok (.new idx, 3)) (kk : (∀ b y, h b = some y → b < nx) → Sf k (cells + 1) (slots + N) (hpU h nx (eO ci fs)) (nx + 1) (pc + 3) ls (.ref nx :: st)) : Sf k cells slots h nx pc ls st := by
  obtain ⟨p, l, e, R, s, m, args, below, meth, c, Q, base, G, D, nL⟩ := k
  intro H locs la hH hS hL
  have hKn := g.2.2.2.2.2.1.1.1 ci _ hc
  refine W.newcK g.1 g.2.1 g.2.2.2.1 (g.2.2.2.2.1 _ hw.1) (g.2.2.2.2.1 _ hw.2.1) (g.2.2.2.2.1 _ hw.2.2) rfl d hcl hs hKn.2.1 hH.1 fun H1 kC hkC e1 z1 o1 => ?_
  exact kk (hp_lt hH) H1 _ la (hp_new hH z1 o1 ⟨_, hc, (u_born ty g.2.2.2.2.1 (cls_in hc) hKn hkC e1 hty).to hfs⟩) ⟨by rw [z1, ← hH.1]; exact Nat.le_succ_of_le hS.1, fun q h1 h2 => (o1 q (by rw [← hH.1]; exact Nat.lt_of_lt_of_le h1 hS.1)).trans (hS.2.1 q h1 h2), hS.2.2⟩ hL
end HEAP
