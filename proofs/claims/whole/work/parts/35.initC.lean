/-! 35: constructors -/
theorem woi : Cond.instanceMethod objectInit ∈ UW := mt1 (i := 20) rfl rfl
theorem woc : Cond.code objectInit ⟨#[0xb1]⟩ 1 none ∈ UW := mt1 (i := 21) rfl rfl
theorem wolX0 : Cond.methodLink RX0 3 objectInit ∈ UW := mt1 (i := 31) rfl rfl
theorem wolX1 : Cond.methodLink RX1 1 objectInit ∈ UW := mt2 (i := 91) rfl rfl
theorem wolX2 : Cond.methodLink RX2 3 objectInit ∈ UW := mt2 (i := 188) rfl rfl
theorem wolX3 : Cond.methodLink RX3 3 objectInit ∈ UW := mt2 (i := 96) rfl rfl
theorem wolX4 : Cond.methodLink RX4 1 objectInit ∈ UW := mt1 (i := 19) rfl rfl
theorem wolX5 : Cond.methodLink RX5 1 objectInit ∈ UW := mt3 (i := 75) rfl rfl
def dF0 : List Value := [.null, .null, .null, .null, .null, .null, .null, .int 0, .null, .null, .null, .null, .null, .null, .long 0]
theorem dF0_ok : ∀ j, j < 15 → defaultValue (tyX0 j) = vp_V dF0 j := fun j hj => by
  match j, hj with
  | 0, _ | 1, _ | 2, _ | 3, _ | 4, _ | 5, _ | 6, _ | 7, _ | 8, _ | 9, _ | 10, _ | 11, _ | 12, _ | 13, _ | 14, _ => rfl
  | n + 15, h => exact absurd h (by omega)
def dF1 : List Value := [.int 0, .int 0, .int 0, .int 0, .int 0, .int 0, .null]
theorem dF1_ok : ∀ j, j < 7 → defaultValue (tyX1 j) = vp_V dF1 j := fun j hj => by
  match j, hj with
  | 0, _ | 1, _ | 2, _ | 3, _ | 4, _ | 5, _ | 6, _ => rfl
  | n + 7, h => exact absurd h (by omega)
def dF2 : List Value := [.int 0, .int 0, .int 0, .int 0, .int 0, .int 0]
theorem dF2_ok : ∀ j, j < 6 → defaultValue (tyX2 j) = vp_V dF2 j := fun j hj => by
  match j, hj with
  | 0, _ | 1, _ | 2, _ | 3, _ | 4, _ | 5, _ => rfl
  | n + 6, h => exact absurd h (by omega)
def dF3 : List Value := [.int 0, .int 0, .int 0, .int 0, .null, .null]
theorem dF3_ok : ∀ j, j < 6 → defaultValue (tyX3 j) = vp_V dF3 j := fun j hj => by
  match j, hj with
  | 0, _ | 1, _ | 2, _ | 3, _ | 4, _ | 5, _ => rfl
  | n + 6, h => exact absurd h (by omega)
def dF4 : List Value := [.int 0, .null, .int 0, .null, .int 0, .int 0, .int 0, .null]
theorem dF4_ok : ∀ j, j < 8 → defaultValue (tyX4 j) = vp_V dF4 j := fun j hj => by
  match j, hj with
  | 0, _ | 1, _ | 2, _ | 3, _ | 4, _ | 5, _ | 6, _ | 7, _ => rfl
  | n + 8, h => exact absurd h (by omega)
def dF5 : List Value := [.int 0, .int 0, .int 0, .int 0, .null, .null, .null, .null, .null, .null, .int 0, .null, .null, .null, .null, .null, .null, .int 0, .null, .null, .null, .null, .null, .null, .int 0, .null, .null, .null, .null, .null, .null]
theorem dF5_ok : ∀ j, j < 31 → defaultValue (tyX5 j) = vp_V dF5 j := fun j hj => by
  match j, hj with
  | 0, _ | 1, _ | 2, _ | 3, _ | 4, _ | 5, _ | 6, _ | 7, _ | 8, _ | 9, _ | 10, _ | 11, _ | 12, _ | 13, _ | 14, _ | 15, _ | 16, _ | 17, _ | 18, _ | 19, _ | 20, _ | 21, _ | 22, _ | 23, _ | 24, _ | 25, _ | 26, _ | 27, _ | 28, _ | 29, _ | 30, _ => rfl
  | n + 31, h => exact absurd h (by omega)
section MK
variable {k : Cx} {own : String} {cc : ByteArray} {cells slots : Nat} {h0 h : Hp} {nx pc : Nat} {ls : List (Option Value)} {st : List Value}
theorem r_new1 {idx ci N : Nat} {C : String} {T : u_T} {fs : List Value} (g : Gd k own cc) (hw : Cond.classLink own idx C ∈ UW ∧ Cond.instantiable C N ∈ UW ∧ Cond.initialized C ∈ UW) (hc : vwCl[ci]? = some (C, T, N)) (ty : Nat → FieldType) (hty : ∀ k, k < N → parseFieldDescriptor (T k).2.2.1 = some (ty k)) (hfs : ∀ j, j < N → defaultValue (ty j) = vp_V fs j) (hcl : cells + 1 ≤ (cRoom k).cells) (hs : slots + N ≤ (cRoom k).slots) (d : decode cc pc = .ok (.new idx, 3)) (kk : (∀ b y, h b = some y → b < nx) → ∀ h', Up1 h h' nx (eO ci fs) → Sf k (cells + 1) (slots + N) h' (nx + 1) (pc + 3) ls (.ref nx :: st)) : Sf k cells slots h nx pc ls st :=
  r_new g hw hc ty hty hfs hcl hs d (fun hf => kk hf _ (Up1.of _ _ _))
theorem r_putF1 {idx ci kf a : Nat} {ty : FieldType} {fs fs' : List Value} {v : Value} (g : Gd k own cc) (f : FL own idx ci kf ty true) (hown9 : (vwCl[ci]?).map (fun q => q.1) = some own) (hnm9 : cName k = "<init>") (ha : h a = some (eO ci fs)) (hb : cBase k ≤ a) (hl : kf < fs.length) (hn : narrow ty v = v) (hfit : fits ty v = true) (hs : fs.set kf v = fs') (d : decode cc pc = .ok (.putfield idx, 3)) (kk : ∀ h', Up1 h h' a (eO ci fs') → Sf k cells slots h' nx (pc + 3) ls st) : Sf k cells slots h nx pc ls (v :: .ref a :: st) :=
  r_putF g f hown9 hnm9 ha hb hl hn hfit d (by rw [hs]; exact kk _ (Up1.of _ _ _))
/-- an object being made at o: its arrays behind it, n - 1 of them -/
def PG (ci : Nat) (E : Nat → PE) (h0 h : Hp) (o n : Nat) (fs : List Value) : Prop := h o = some (eO ci fs) ∧ (∀ i, 1 ≤ i → i < n → h (o + i) = some (E i)) ∧ ∀ q, q < o → h q = h0 q
theorem PG.step {ci : Nat} {E : Nat → PE} {h1 h2 : Hp} {o n : Nat} {fs fs' : List Value} (x : PG ci E h0 h o n fs) (hn : 1 ≤ n) (u : Up1 h h1 (o + n) (E n)) (v : Up1 h1 h2 o (eO ci fs')) : PG ci E h0 h2 o (n + 1) fs' := by
  refine ⟨v.1, fun i h3 h4 => ?_, fun q hq => (v.2 q (by omega)).trans ((u.2 q (by omega)).trans (x.2.2 q hq))⟩
  by_cases e : i = n
  · subst e; exact (v.2 _ (by omega)).trans u.1
  · exact (v.2 _ (by omega)).trans ((u.2 _ (by omega)).trans (x.2.1 i h3 (by omega)))
theorem r_mkI {ci o n N idx kf : Nat} {E : Nat → PE} {fs fs' : List Value} (g : Gd k own cc) (hP : PG ci E h0 h o n fs) (h1n : 1 ≤ n) (hnx : nx = o + n) (hE : E n = eI N (fun _ => 0)) (hN : N ≤ 2000) (hc : cells + 1 ≤ (cRoom k).cells) (hs : slots + N ≤ (cRoom k).slots) (f : FL own idx ci kf (.array .int) true) (hown9 : (vwCl[ci]?).map (fun q => q.1) = some own) (hnm9 : cName k = "<init>") (hb : cBase k ≤ o) (hl : kf < fs.length) (hs9 : fs.set kf (.ref (o + n)) = fs') (d1 : decode cc pc = .ok (.newarray .int, 2)) (d2 : decode cc (pc + 2) = .ok (.putfield idx, 3)) (kk : ∀ h', PG ci E h0 h' o (n + 1) fs' → Sf k (cells + 1) (slots + N) h' (o + n + 1) (pc + 5) ls st) : Sf k cells slots h nx pc ls (.int (nI N) :: .ref o :: st) := by
  subst hnx
  refine r_newaI g rfl hN hc hs d1 (fun hf => ?_)
  have u : Up1 h (hpU h (o + n) (eI N (fun _ => 0))) (o + n) (E n) := by rw [hE]; exact Up1.of _ _ _
  refine r_putF1 g f hown9 hnm9 ((u.2 o (by omega)).trans hP.1) hb hl rfl rfl hs9 d2 (fun h2 v => ?_)
  exact kk h2 (hP.step h1n u v)
theorem r_mkJ {ci o n N idx kf : Nat} {E : Nat → PE} {fs fs' : List Value} (g : Gd k own cc) (hP : PG ci E h0 h o n fs) (h1n : 1 ≤ n) (hnx : nx = o + n) (hE : E n = eJ N (fun _ => 0)) (hN : N ≤ 2000) (hc : cells + 1 ≤ (cRoom k).cells) (hs : slots + N ≤ (cRoom k).slots) (f : FL own idx ci kf (.array .long) true) (hown9 : (vwCl[ci]?).map (fun q => q.1) = some own) (hnm9 : cName k = "<init>") (hb : cBase k ≤ o) (hl : kf < fs.length) (hs9 : fs.set kf (.ref (o + n)) = fs') (d1 : decode cc pc = .ok (.newarray .long, 2)) (d2 : decode cc (pc + 2) = .ok (.putfield idx, 3)) (kk : ∀ h', PG ci E h0 h' o (n + 1) fs' → Sf k (cells + 1) (slots + N) h' (o + n + 1) (pc + 5) ls st) : Sf k cells slots h nx pc ls (.int (nI N) :: .ref o :: st) := by
  subst hnx
  refine r_newaJ g rfl hN hc hs d1 (fun hf => ?_)
  have u : Up1 h (hpU h (o + n) (eJ N (fun _ => 0))) (o + n) (E n) := by rw [hE]; exact Up1.of _ _ _
  refine r_putF1 g f hown9 hnm9 ((u.2 o (by omega)).trans hP.1) hb hl rfl rfl hs9 d2 (fun h2 v => ?_)
  exact kk h2 (hP.step h1n u v)
theorem r_mkZ {ci o n N idx kf : Nat} {E : Nat → PE} {fs fs' : List Value} (g : Gd k own cc) (hP : PG ci E h0 h o n fs) (h1n : 1 ≤ n) (hnx : nx = o + n) (hE : E n = eZ N (fun _ => 0)) (hN : N ≤ 2000) (hc : cells + 1 ≤ (cRoom k).cells) (hs : slots + N ≤ (cRoom k).slots) (f : FL own idx ci kf (.array .boolean) true) (hown9 : (vwCl[ci]?).map (fun q => q.1) = some own) (hnm9 : cName k = "<init>") (hb : cBase k ≤ o) (hl : kf < fs.length) (hs9 : fs.set kf (.ref (o + n)) = fs') (d1 : decode cc pc = .ok (.newarray .boolean, 2)) (d2 : decode cc (pc + 2) = .ok (.putfield idx, 3)) (kk : ∀ h', PG ci E h0 h' o (n + 1) fs' → Sf k (cells + 1) (slots + N) h' (o + n + 1) (pc + 5) ls st) : Sf k cells slots h nx pc ls (.int (nI N) :: .ref o :: st) := by
  subst hnx
  refine r_newaZ g rfl hN hc hs d1 (fun hf => ?_)
  have u : Up1 h (hpU h (o + n) (eZ N (fun _ => 0))) (o + n) (E n) := by rw [hE]; exact Up1.of _ _ _
  refine r_putF1 g f hown9 hnm9 ((u.2 o (by omega)).trans hP.1) hb hl rfl rfl hs9 d2 (fun h2 v => ?_)
  exact kk h2 (hP.step h1n u v)
theorem r_mkQ {ci o n N t idx idx2 kf : Nat} {C D9 : String} {E : Nat → PE} {fs fs' : List Value} (g : Gd k own cc) (hw : Cond.classLink own idx2 C ∈ UW) (htC : t = 0 ∧ C = RX1 ∨ t = 1 ∧ C = RX2) (hP : PG ci E h0 h o n fs) (h1n : 1 ≤ n) (hnx : nx = o + n) (hE : E n = eQ t N (fun _ => none)) (hN : N ≤ 2000) (hc : cells + 1 ≤ (cRoom k).cells) (hs : slots + N ≤ (cRoom k).slots) (f : FL own idx ci kf (.array (.object D9)) true) (hown9 : (vwCl[ci]?).map (fun q => q.1) = some own) (hnm9 : cName k = "<init>") (hb : cBase k ≤ o) (hl : kf < fs.length) (hs9 : fs.set kf (.ref (o + n)) = fs') (d1 : decode cc pc = .ok (.anewarray idx2, 3)) (d2 : decode cc (pc + 3) = .ok (.putfield idx, 3)) (kk : ∀ h', PG ci E h0 h' o (n + 1) fs' → Sf k (cells + 1) (slots + N) h' (o + n + 1) (pc + 6) ls st) : Sf k cells slots h nx pc ls (.int (nI N) :: .ref o :: st) := by
  subst hnx
  refine r_newaQ g hw htC rfl hN hc hs d1 (fun hf => ?_)
  have u : Up1 h (hpU h (o + n) (eQ t N (fun _ => none))) (o + n) (E n) := by rw [hE]; exact Up1.of _ _ _
  refine r_putF1 g f hown9 hnm9 ((u.2 o (by omega)).trans hP.1) hb hl rfl rfl hs9 d2 (fun h2 v => ?_)
  exact kk h2 (hP.step h1n u v)
end MK
def rwE (i : Nat) : PE := if i = 1 then eJ 448 (fun _ => 0) else eI 448 (fun _ => 0)
def KRw (h : Hp) (r : Nat) : Option Value → Hp → Nat → Prop := fun v h' nx' => v = none ∧ nx' = r + 3 ∧ RO h' r (fun _ => 0) (fun _ => 0) (fun _ => 0) ∧ ∀ q, q < r → h' q = h q
set_option maxHeartbeats 4000000 in
set_option maxRecDepth 100000 in
theorem ok_i_rows (l : Launch) (G : Nat → ClassId) (D : va_G) (base : Nat) {h : Hp} {r : Nat} (hr0 : h r = some (eO 3 dF3)) (hb : base ≤ r) : MetP l G D base miX3_init 1 2 896 [.ref r] h (r + 1) (KRw h r) := by
  refine MetP_of (by decide +kernel) rfl ?_
  intro k g hr hR hcl hcg hcd hcb hcn hnx
  subst hcl; subst hcg; subst hcd; subst hcb
  have hP : PG 3 rwE h h r 1 dF3 := ⟨hr0, fun i a b => by omega, fun _ _ => rfl⟩
  show Sf k 0 0 h (r + 1) 0 [some (.ref r)] []
  refine r_aload_n g dX3_init_0 rfl ?_
  refine r_objInit g wolX3 woi woc hR (by decide) rfl dX3_init_1 ?_
  refine r_aload_n g dX3_init_4 rfl ?_
  refine r_sipush (v := 448) g dX3_init_5 (by decide) ?_
  refine r_mkJ (o := r) (n := 1) (N := 448) (fs' := [.int 0, .int 0, .int 0, .int 0, .ref (r + 1), .null]) g hP (by decide) rfl rfl (by decide) (by have := hR.2.2.1; have : 2 ≤ (cRoom k).cells := this; omega) (by have := hR.2.2.2; have : 896 ≤ (cRoom k).slots := this; omega) fX3_11 rfl hcn hb (Nat.le_of_ble_eq_true rfl) rfl dX3_init_8 dX3_init_10 ?_
  intro h_1 hP
  refine r_aload_n g dX3_init_13 rfl ?_
  refine r_sipush (v := 448) g dX3_init_14 (by decide) ?_
  refine r_mkI (o := r) (n := 2) (N := 448) (fs' := [.int 0, .int 0, .int 0, .int 0, .ref (r + 1), .ref (r + 2)]) g hP (by decide) rfl rfl (by decide) (by have := hR.2.2.1; have : 2 ≤ (cRoom k).cells := this; omega) (by have := hR.2.2.2; have : 896 ≤ (cRoom k).slots := this; omega) fX3_15 rfl hcn hb (Nat.le_of_ble_eq_true rfl) rfl dX3_init_17 dX3_init_19 ?_
  intro h_2 hP
  exact r_vret g hr (by decide) (by decide) dX3_init_22 ⟨rfl, rfl, ⟨hP.1, hP.2.1 1 (by decide) (by decide), hP.2.1 2 (by decide) (by decide)⟩, hP.2.2⟩
def KLi (h : Hp) (a : Nat) (sp f t : Int32) : Option Value → Hp → Nat → Prop := fun v h' nx' => v = none ∧ nx' = a + 4 ∧ h' a = some (eO 1 [.int sp, .int f, .int 0, .int 0, .int t, .int 0, .ref (a + 1)]) ∧ RO h' (a + 1) (fun _ => 0) (fun _ => 0) (fun _ => 0) ∧ ∀ q, q < a → h' q = h q
theorem wrN : Cond.code miX3_init.1 miX3_init.2.1 miX3_init.2.2.1 miX3_init.2.2.2 ∈ UW := mt2 (i := 95) rfl rfl
theorem wrI : Cond.instanceMethod miX3_init.1 ∈ UW := mt2 (i := 94) rfl rfl
set_option maxHeartbeats 4000000 in
set_option maxRecDepth 100000 in
theorem ok_i_lift (l : Launch) (G : Nat → ClassId) (D : va_G) (base : Nat) {h : Hp} {a : Nat} (ha : h a = some (eO 1 dF1)) (hb : base ≤ a) (sp f t : Int32) : MetP l G D base miX1_init 2 3 902 [.ref a, .int sp, .int f, .int t] h (a + 1) (KLi h a sp f t) := by
  refine MetP_of (by decide +kernel) rfl ?_
  intro k g hr hR hcl hcg hcd hcb hcn hnx
  subst hcl; subst hcg; subst hcd; subst hcb
  show Sf k 0 0 h (a + 1) 0 [some (.ref a), some (.int sp), some (.int f), some (.int t)] []
  refine r_aload_n g dX1_init_0 rfl ?_
  refine r_objInit g wolX1 woi woc hR (by decide) rfl dX1_init_1 ?_
  refine r_aload_n g dX1_init_4 rfl ?_
  refine r_new1 (ci := 3) g nX1_7 rfl tyX3 tyX3_ok dF3_ok (by have := hR.2.2.1; have : 3 ≤ (cRoom k).cells := this; omega) (by have := hR.2.2.2; have : 902 ≤ (cRoom k).slots := this; omega) dX1_init_5 ?_
  intro hf h1 hU1
  refine r_dup g dX1_init_8 rfl ?_
  refine r_callRows g (ok_i_rows _ _ _ _ (r := a + 1) hU1.1 (by omega)) rfl (by omega) hR (by decide) (by decide) (by decide) rfl dX1_init_9 wrN wrI nX1_7.2.2 ?_
  rintro v9 h9 nx9 ⟨rfl, rfl, hRO, hq9⟩ -
  have ha9 : h9 a = some (eO 1 dF1) := (hq9 a (by omega)).trans ((hU1.2 a (by omega)).trans ha)
  refine r_putF1 (fs' := [.int 0, .int 0, .int 0, .int 0, .int 0, .int 0, .ref (a + 1)]) g fX1_10 rfl hcn ha9 hb (Nat.le_of_ble_eq_true rfl) rfl rfl rfl dX1_init_12 ?_
  intro h_1 hU_2
  refine r_aload_n g dX1_init_15 rfl ?_
  refine r_iload_n g dX1_init_16 rfl ?_
  refine r_putF1 (fs' := [.int sp, .int 0, .int 0, .int 0, .int 0, .int 0, .ref (a + 1)]) g fX1_16 rfl hcn hU_2.1 hb (Nat.le_of_ble_eq_true rfl) rfl rfl rfl dX1_init_17 ?_
  intro h_3 hU_4
  have hU_4 := hU_2.tr hU_4
  refine r_aload_n g dX1_init_20 rfl ?_
  refine r_iload_n g dX1_init_21 rfl ?_
  refine r_put1 (fs' := [.int sp, .int f, .int 0, .int 0, .int 0, .int 0, .ref (a + 1)]) g fX1_20 hU_4.1 hb (Nat.le_of_ble_eq_true rfl) rfl rfl rfl dX1_init_22 ?_
  intro h_5 hU_6
  have hU_6 := hU_4.tr hU_6
  refine r_aload_n g dX1_init_25 rfl ?_
  refine r_iload_n g dX1_init_26 rfl ?_
  refine r_put1 (fs' := [.int sp, .int f, .int 0, .int 0, .int t, .int 0, .ref (a + 1)]) g fX1_23 hU_6.1 hb (Nat.le_of_ble_eq_true rfl) rfl rfl rfl dX1_init_27 ?_
  intro h_7 hU_8
  have hU_8 := hU_6.tr hU_8
  exact r_vret g hr (by decide) (by decide) dX1_init_30 ⟨rfl, rfl, hU_8.1, hRO.fr hU_8.fr (by omega), fun q hq => (hU_8.2 q (by omega)).trans ((hq9 q (by omega)).trans (hU1.2 q (by omega)))⟩
set_option maxHeartbeats 4000000 in
set_option maxRecDepth 100000 in
theorem ok_i_ride (l : Launch) (G : Nat → ClassId) (D : va_G) (base : Nat) {h : Hp} {nx a : Nat} (ha : h a = some (eO 2 dF2)) (hb : base ≤ a) (n f t z : Int32) : MetP l G D base miX2_init 1 0 0 [.ref a, .int n, .int f, .int t, .int z] h nx (fun v h' nx' => v = none ∧ nx = nx' ∧ Up1 h h' a (eO 2 [.int n, .int f, .int t, .int z, .int 0, .int (-1)])) := by
  refine MetP_of (by decide +kernel) rfl ?_
  intro k g hr hR hcl hcg hcd hcb hcn hnx
  subst hcl; subst hcg; subst hcd; subst hcb
  show Sf k 0 0 h nx 0 [some (.ref a), some (.int n), some (.int f), some (.int t), some (.int z)] []
  refine r_aload_n g dX2_init_0 rfl ?_
  refine r_objInit g wolX2 woi woc hR (by decide) rfl dX2_init_1 ?_
  refine r_aload_n g dX2_init_4 rfl ?_
  refine r_iconst (v := (-1)) g dX2_init_5 (by decide) ?_
  refine r_put1 (fs' := [.int 0, .int 0, .int 0, .int 0, .int 0, .int (-1)]) g fX2_9 ha hb (Nat.le_of_ble_eq_true rfl) rfl rfl rfl dX2_init_6 ?_
  intro h_1 hU_2
  refine r_aload_n g dX2_init_9 rfl ?_
  refine r_iload_n g dX2_init_10 rfl ?_
  refine r_putF1 (fs' := [.int n, .int 0, .int 0, .int 0, .int 0, .int (-1)]) g fX2_15 rfl hcn hU_2.1 hb (Nat.le_of_ble_eq_true rfl) rfl rfl rfl dX2_init_11 ?_
  intro h_3 hU_4
  have hU_4 := hU_2.tr hU_4
  refine r_aload_n g dX2_init_14 rfl ?_
  refine r_iload_n g dX2_init_15 rfl ?_
  refine r_putF1 (fs' := [.int n, .int f, .int 0, .int 0, .int 0, .int (-1)]) g fX2_18 rfl hcn hU_4.1 hb (Nat.le_of_ble_eq_true rfl) rfl rfl rfl dX2_init_16 ?_
  intro h_5 hU_6
  have hU_6 := hU_4.tr hU_6
  refine r_aload_n g dX2_init_19 rfl ?_
  refine r_iload_n g dX2_init_20 rfl ?_
  refine r_putF1 (fs' := [.int n, .int f, .int t, .int 0, .int 0, .int (-1)]) g fX2_21 rfl hcn hU_6.1 hb (Nat.le_of_ble_eq_true rfl) rfl rfl rfl dX2_init_21 ?_
  intro h_7 hU_8
  have hU_8 := hU_6.tr hU_8
  refine r_aload_n g dX2_init_24 rfl ?_
  refine r_iload g dX2_init_25 rfl ?_
  refine r_putF1 (fs' := [.int n, .int f, .int t, .int z, .int 0, .int (-1)]) g fX2_24 rfl hcn hU_8.1 hb (Nat.le_of_ble_eq_true rfl) rfl rfl rfl dX2_init_27 ?_
  intro h_9 hU_10
  have hU_10 := hU_8.tr hU_10
  exact r_vret g hr (by decide) (by decide) dX2_init_30 ⟨rfl, rfl, hU_10⟩
def gvE (i : Nat) : PE := eI (if i = 7 then 64 else if i = 11 then 24 else if i = 13 then 4 else 6) (fun _ => 0)
theorem gvE_ok : ∀ kf, garr kf = true → gvE (goff kf) = eI (glen kf) (fun _ => 0) := fun kf hk => by
  have h9 := of_decide_eq_true hk
  match kf, h9 with
  | 0, _ | 1, _ | 2, _ | 3, _ | 4, _ | 5, _ | 6, _ | 8, _ | 9, _ | 10, _ | 11, _ | 12, _ | 13, _ => rfl
  | 7, h => omega
  | n + 14, h => omega
def KGi (h : Hp) (gv : Nat) : Option Value → Hp → Nat → Prop := fun v h' nx' => v = none ∧ nx' = gv + 14 ∧ (∃ GA, GO h' gv 0 0 GA ∧ GA 6 0 = 0 ∧ ∀ j, j < 24 → GA 11 j = -1) ∧ ∀ q, q < gv → h' q = h q
set_option maxHeartbeats 4000000 in
set_option maxRecDepth 100000 in
theorem ok_i_giving (l : Launch) (G : Nat → ClassId) (D : va_G) (base : Nat) {h : Hp} {gv : Nat} (hg0 : h gv = some (eO 0 dF0)) (hb : base ≤ gv) : MetP l G D base miX0_init 1 13 152 [.ref gv] h (gv + 1) (KGi h gv) := by
  refine MetP_of (by decide +kernel) rfl ?_
  intro k g hr hR hcl hcg hcd hcb hcn hnx
  subst hcl; subst hcg; subst hcd; subst hcb
  have hP : PG 0 gvE h h gv 1 dF0 := ⟨hg0, fun i a b => by omega, fun _ _ => rfl⟩
  show Sf k 0 0 h (gv + 1) 0 [some (.ref gv)] []
  refine r_aload_n g dX0_init_0 rfl ?_
  refine r_objInit g wolX0 woi woc hR (by decide) rfl dX0_init_1 ?_
  refine r_aload_n g dX0_init_4 rfl ?_
  refine r_bipush (v := 6) g dX0_init_5 (by decide) ?_
  refine r_mkI (o := gv) (n := 1) (N := 6) (fs' := [.ref (gv + 1), .null, .null, .null, .null, .null, .null, .int 0, .null, .null, .null, .null, .null, .null, .long 0]) g hP (by decide) rfl rfl (by decide) (by have := hR.2.2.1; have : 13 ≤ (cRoom k).cells := this; omega) (by have := hR.2.2.2; have : 152 ≤ (cRoom k).slots := this; omega) fX0_9 rfl hcn hb (Nat.le_of_ble_eq_true rfl) rfl dX0_init_7 dX0_init_9 ?_
  intro h_1 hP
  refine r_aload_n g dX0_init_12 rfl ?_
  refine r_bipush (v := 6) g dX0_init_13 (by decide) ?_
  refine r_mkI (o := gv) (n := 2) (N := 6) (fs' := [.ref (gv + 1), .ref (gv + 2), .null, .null, .null, .null, .null, .int 0, .null, .null, .null, .null, .null, .null, .long 0]) g hP (by decide) rfl rfl (by decide) (by have := hR.2.2.1; have : 13 ≤ (cRoom k).cells := this; omega) (by have := hR.2.2.2; have : 152 ≤ (cRoom k).slots := this; omega) fX0_15 rfl hcn hb (Nat.le_of_ble_eq_true rfl) rfl dX0_init_15 dX0_init_17 ?_
  intro h_2 hP
  refine r_aload_n g dX0_init_20 rfl ?_
  refine r_bipush (v := 6) g dX0_init_21 (by decide) ?_
  refine r_mkI (o := gv) (n := 3) (N := 6) (fs' := [.ref (gv + 1), .ref (gv + 2), .ref (gv + 3), .null, .null, .null, .null, .int 0, .null, .null, .null, .null, .null, .null, .long 0]) g hP (by decide) rfl rfl (by decide) (by have := hR.2.2.1; have : 13 ≤ (cRoom k).cells := this; omega) (by have := hR.2.2.2; have : 152 ≤ (cRoom k).slots := this; omega) fX0_18 rfl hcn hb (Nat.le_of_ble_eq_true rfl) rfl dX0_init_23 dX0_init_25 ?_
  intro h_3 hP
  refine r_aload_n g dX0_init_28 rfl ?_
  refine r_bipush (v := 6) g dX0_init_29 (by decide) ?_
  refine r_mkI (o := gv) (n := 4) (N := 6) (fs' := [.ref (gv + 1), .ref (gv + 2), .ref (gv + 3), .ref (gv + 4), .null, .null, .null, .int 0, .null, .null, .null, .null, .null, .null, .long 0]) g hP (by decide) rfl rfl (by decide) (by have := hR.2.2.1; have : 13 ≤ (cRoom k).cells := this; omega) (by have := hR.2.2.2; have : 152 ≤ (cRoom k).slots := this; omega) fX0_21 rfl hcn hb (Nat.le_of_ble_eq_true rfl) rfl dX0_init_31 dX0_init_33 ?_
  intro h_4 hP
  refine r_aload_n g dX0_init_36 rfl ?_
  refine r_bipush (v := 6) g dX0_init_37 (by decide) ?_
  refine r_mkI (o := gv) (n := 5) (N := 6) (fs' := [.ref (gv + 1), .ref (gv + 2), .ref (gv + 3), .ref (gv + 4), .ref (gv + 5), .null, .null, .int 0, .null, .null, .null, .null, .null, .null, .long 0]) g hP (by decide) rfl rfl (by decide) (by have := hR.2.2.1; have : 13 ≤ (cRoom k).cells := this; omega) (by have := hR.2.2.2; have : 152 ≤ (cRoom k).slots := this; omega) fX0_24 rfl hcn hb (Nat.le_of_ble_eq_true rfl) rfl dX0_init_39 dX0_init_41 ?_
  intro h_5 hP
  refine r_aload_n g dX0_init_44 rfl ?_
  refine r_bipush (v := 6) g dX0_init_45 (by decide) ?_
  refine r_mkI (o := gv) (n := 6) (N := 6) (fs' := [.ref (gv + 1), .ref (gv + 2), .ref (gv + 3), .ref (gv + 4), .ref (gv + 5), .ref (gv + 6), .null, .int 0, .null, .null, .null, .null, .null, .null, .long 0]) g hP (by decide) rfl rfl (by decide) (by have := hR.2.2.1; have : 13 ≤ (cRoom k).cells := this; omega) (by have := hR.2.2.2; have : 152 ≤ (cRoom k).slots := this; omega) fX0_27 rfl hcn hb (Nat.le_of_ble_eq_true rfl) rfl dX0_init_47 dX0_init_49 ?_
  intro h_6 hP
  refine r_aload_n g dX0_init_52 rfl ?_
  refine r_bipush (v := 64) g dX0_init_53 (by decide) ?_
  refine r_mkI (o := gv) (n := 7) (N := 64) (fs' := [.ref (gv + 1), .ref (gv + 2), .ref (gv + 3), .ref (gv + 4), .ref (gv + 5), .ref (gv + 6), .ref (gv + 7), .int 0, .null, .null, .null, .null, .null, .null, .long 0]) g hP (by decide) rfl rfl (by decide) (by have := hR.2.2.1; have : 13 ≤ (cRoom k).cells := this; omega) (by have := hR.2.2.2; have : 152 ≤ (cRoom k).slots := this; omega) fX0_32 rfl hcn hb (Nat.le_of_ble_eq_true rfl) rfl dX0_init_55 dX0_init_57 ?_
  intro h_7 hP
  refine r_aload_n g dX0_init_60 rfl ?_
  refine r_bipush (v := 6) g dX0_init_61 (by decide) ?_
  refine r_mkI (o := gv) (n := 8) (N := 6) (fs' := [.ref (gv + 1), .ref (gv + 2), .ref (gv + 3), .ref (gv + 4), .ref (gv + 5), .ref (gv + 6), .ref (gv + 7), .int 0, .ref (gv + 8), .null, .null, .null, .null, .null, .long 0]) g hP (by decide) rfl rfl (by decide) (by have := hR.2.2.1; have : 13 ≤ (cRoom k).cells := this; omega) (by have := hR.2.2.2; have : 152 ≤ (cRoom k).slots := this; omega) fX0_35 rfl hcn hb (Nat.le_of_ble_eq_true rfl) rfl dX0_init_63 dX0_init_65 ?_
  intro h_8 hP
  refine r_aload_n g dX0_init_68 rfl ?_
  refine r_bipush (v := 6) g dX0_init_69 (by decide) ?_
  refine r_mkI (o := gv) (n := 9) (N := 6) (fs' := [.ref (gv + 1), .ref (gv + 2), .ref (gv + 3), .ref (gv + 4), .ref (gv + 5), .ref (gv + 6), .ref (gv + 7), .int 0, .ref (gv + 8), .ref (gv + 9), .null, .null, .null, .null, .long 0]) g hP (by decide) rfl rfl (by decide) (by have := hR.2.2.1; have : 13 ≤ (cRoom k).cells := this; omega) (by have := hR.2.2.2; have : 152 ≤ (cRoom k).slots := this; omega) fX0_38 rfl hcn hb (Nat.le_of_ble_eq_true rfl) rfl dX0_init_71 dX0_init_73 ?_
  intro h_9 hP
  refine r_aload_n g dX0_init_76 rfl ?_
  refine r_bipush (v := 6) g dX0_init_77 (by decide) ?_
  refine r_mkI (o := gv) (n := 10) (N := 6) (fs' := [.ref (gv + 1), .ref (gv + 2), .ref (gv + 3), .ref (gv + 4), .ref (gv + 5), .ref (gv + 6), .ref (gv + 7), .int 0, .ref (gv + 8), .ref (gv + 9), .ref (gv + 10), .null, .null, .null, .long 0]) g hP (by decide) rfl rfl (by decide) (by have := hR.2.2.1; have : 13 ≤ (cRoom k).cells := this; omega) (by have := hR.2.2.2; have : 152 ≤ (cRoom k).slots := this; omega) fX0_41 rfl hcn hb (Nat.le_of_ble_eq_true rfl) rfl dX0_init_79 dX0_init_81 ?_
  intro h_10 hP
  refine r_aload_n g dX0_init_84 rfl ?_
  refine r_bipush (v := 24) g dX0_init_85 (by decide) ?_
  refine r_mkI (o := gv) (n := 11) (N := 24) (fs' := [.ref (gv + 1), .ref (gv + 2), .ref (gv + 3), .ref (gv + 4), .ref (gv + 5), .ref (gv + 6), .ref (gv + 7), .int 0, .ref (gv + 8), .ref (gv + 9), .ref (gv + 10), .ref (gv + 11), .null, .null, .long 0]) g hP (by decide) rfl rfl (by decide) (by have := hR.2.2.1; have : 13 ≤ (cRoom k).cells := this; omega) (by have := hR.2.2.2; have : 152 ≤ (cRoom k).slots := this; omega) fX0_44 rfl hcn hb (Nat.le_of_ble_eq_true rfl) rfl dX0_init_87 dX0_init_89 ?_
  intro h_11 hP
  refine r_aload_n g dX0_init_92 rfl ?_
  refine r_bipush (v := 6) g dX0_init_93 (by decide) ?_
  refine r_mkI (o := gv) (n := 12) (N := 6) (fs' := [.ref (gv + 1), .ref (gv + 2), .ref (gv + 3), .ref (gv + 4), .ref (gv + 5), .ref (gv + 6), .ref (gv + 7), .int 0, .ref (gv + 8), .ref (gv + 9), .ref (gv + 10), .ref (gv + 11), .ref (gv + 12), .null, .long 0]) g hP (by decide) rfl rfl (by decide) (by have := hR.2.2.1; have : 13 ≤ (cRoom k).cells := this; omega) (by have := hR.2.2.2; have : 152 ≤ (cRoom k).slots := this; omega) fX0_47 rfl hcn hb (Nat.le_of_ble_eq_true rfl) rfl dX0_init_95 dX0_init_97 ?_
  intro h_12 hP
  refine r_aload_n g dX0_init_100 rfl ?_
  refine r_iconst (v := 4) g dX0_init_101 (by decide) ?_
  refine r_mkI (o := gv) (n := 13) (N := 4) (fs' := [.ref (gv + 1), .ref (gv + 2), .ref (gv + 3), .ref (gv + 4), .ref (gv + 5), .ref (gv + 6), .ref (gv + 7), .int 0, .ref (gv + 8), .ref (gv + 9), .ref (gv + 10), .ref (gv + 11), .ref (gv + 12), .ref (gv + 13), .long 0]) g hP (by decide) rfl rfl (by decide) (by have := hR.2.2.1; have : 13 ≤ (cRoom k).cells := this; omega) (by have := hR.2.2.2; have : 152 ≤ (cRoom k).slots := this; omega) fX0_50 rfl hcn hb (Nat.le_of_ble_eq_true rfl) rfl dX0_init_102 dX0_init_104 ?_
  intro h_13 hP
  refine r_aload_n g dX0_init_107 rfl ?_
  have hGO : GO h_13 gv 0 0 (fun _ _ => 0) := ⟨hP.1, fun kf hk => by have := goff_rng hk; rw [hP.2.1 _ (by omega) (by omega), gvE_ok kf hk]⟩
  refine r_callV g kX0_53 (ok_g_clearRows _ _ _ _ hGO hb) hGO.1 rfl rfl rfl (by omega) hR (by decide) (by decide) (by decide) rfl rfl dX0_init_108 ?_
  rintro v9 h_14 nx9 ⟨rfl, rfl, C9, Lz9, GA9, hG9, rfl, rfl, hf9, hm9⟩ -
  exact r_vret g hr (by decide) (by decide) dX0_init_111 ⟨rfl, rfl, ⟨GA9, hG9.1, by rw [hf9 6 (by decide)], hm9⟩, fun q hq => (hG9.2 q (by omega)).trans (hP.2.2 q hq)⟩
