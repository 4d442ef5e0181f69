/-! 18: the class's state: Giving at gv, its arrays behind it; Rows at r, its arrays behind it; Lift, its Rows behind it; Ride -/
def goff (kf : Nat) : Nat := if kf < 7 then kf + 1 else kf
def glen (kf : Nat) : Nat := match kf with
  | 6 => 64
  | 11 => 24
  | 13 => 4
  | _ => 6
def garr (kf : Nat) : Bool := decide (kf < 7 ∨ (8 ≤ kf ∧ kf < 14))
def gobj (gv : Nat) (C : Int32) (Lz : Int64) : List Value := [.ref (gv + goff 0), .ref (gv + goff 1), .ref (gv + goff 2), .ref (gv + goff 3), .ref (gv + goff 4), .ref (gv + goff 5), .ref (gv + goff 6), .int C, .ref (gv + goff 8), .ref (gv + goff 9), .ref (gv + goff 10), .ref (gv + goff 11), .ref (gv + goff 12), .ref (gv + goff 13), .long Lz]
def GO (h : Hp) (gv : Nat) (C : Int32) (Lz : Int64) (GA : Nat → Nat → Int32) : Prop := h gv = some (eO 0 (gobj gv C Lz)) ∧ ∀ kf, garr kf = true → h (gv + goff kf) = some (eI (glen kf) (GA kf))
/-- outside n cells from a on all stays -/
def Fr (a n : Nat) (h h' : Hp) : Prop := ∀ q, (q < a ∨ a + n ≤ q) → h' q = h q
theorem Fr.rf {a n : Nat} {h : Hp} : Fr a n h h := fun _ _ => rfl
theorem Fr.tr {a n : Nat} {h h1 h2 : Hp} (x : Fr a n h h1) (y : Fr a n h1 h2) : Fr a n h h2 := fun q hq => (y q hq).trans (x q hq)
def GS (h0 h : Hp) (gv : Nat) (C : Int32) (Lz : Int64) (GA : Nat → Nat → Int32) : Prop := GO h gv C Lz GA ∧ Fr gv 14 h0 h
def robj (r : Nat) (W : Nat → Int32) : List Value := [.int (W 0), .int (W 1), .int (W 2), .int (W 3), .ref (r + 1), .ref (r + 2)]
def RO (h : Hp) (r : Nat) (W : Nat → Int32) (CO : Nat → Int64) (FI : Nat → Int32) : Prop := h r = some (eO 3 (robj r W)) ∧ h (r + 1) = some (eJ 448 CO) ∧ h (r + 2) = some (eI 448 FI)
def RwS (h0 h : Hp) (r : Nat) (W : Nat → Int32) (CO : Nat → Int64) (FI : Nat → Int32) : Prop := RO h r W CO FI ∧ Fr r 3 h0 h
def lobj (a : Nat) (LF : Nat → Int32) : List Value := [.int (LF 0), .int (LF 1), .int (LF 2), .int (LF 3), .int (LF 4), .int (LF 5), .ref (a + 1)]
def dobj (RF : Nat → Int32) : List Value := [.int (RF 0), .int (RF 1), .int (RF 2), .int (RF 3), .int (RF 4), .int (RF 5)]
theorem goff_rng {kf : Nat} (h : garr kf = true) : 1 ≤ goff kf ∧ goff kf < 14 := by
  have h9 := of_decide_eq_true h
  unfold goff
  split <;> omega
theorem goff_inj {a b : Nat} (ha : garr a = true) (hb : garr b = true) (e : goff a = goff b) : a = b := by
  have h1 := of_decide_eq_true ha
  have h2 := of_decide_eq_true hb
  unfold goff at e
  split at e <;> split at e <;> omega
theorem glen_lt (kf : Nat) : glen kf < 2 ^ 31 := by
  unfold glen
  split <;> decide
theorem GS.rf {h : Hp} {gv : Nat} {C : Int32} {Lz : Int64} {GA : Nat → Nat → Int32} (x : GO h gv C Lz GA) : GS h h gv C Lz GA := ⟨x, Fr.rf⟩
theorem RwS.rf {h : Hp} {r : Nat} {W : Nat → Int32} {CO : Nat → Int64} {FI : Nat → Int32} (x : RO h r W CO FI) : RwS h h r W CO FI := ⟨x, Fr.rf⟩
theorem GS.then {h0 h h' : Hp} {gv : Nat} {C C' : Int32} {Lz Lz' : Int64} {GA GA' : Nat → Nat → Int32} (x : GS h0 h gv C Lz GA) (y : GS h h' gv C' Lz' GA') : GS h0 h' gv C' Lz' GA' := ⟨y.1, x.2.tr y.2⟩
theorem RwS.then {h0 h h' : Hp} {r : Nat} {W W' : Nat → Int32} {CO CO' : Nat → Int64} {FI FI' : Nat → Int32} (x : RwS h0 h r W CO FI) (y : RwS h h' r W' CO' FI') : RwS h0 h' r W' CO' FI' := ⟨y.1, x.2.tr y.2⟩
theorem RO.fr {h0 h : Hp} {a n r : Nat} {W : Nat → Int32} {CO : Nat → Int64} {FI : Nat → Int32} (x : RO h0 r W CO FI) (f : Fr a n h0 h) (d : r + 3 ≤ a ∨ a + n ≤ r) : RO h r W CO FI :=
  ⟨(f r (by omega)).trans x.1, (f (r + 1) (by omega)).trans x.2.1, (f (r + 2) (by omega)).trans x.2.2⟩
theorem GO.fr {h0 h : Hp} {a n gv : Nat} {C : Int32} {Lz : Int64} {GA : Nat → Nat → Int32} (x : GO h0 gv C Lz GA) (f : Fr a n h0 h) (d : gv + 14 ≤ a ∨ a + n ≤ gv) : GO h gv C Lz GA :=
  ⟨(f gv (by omega)).trans x.1, fun kf hk => (f _ (by have := goff_rng hk; omega)).trans (x.2 kf hk)⟩
theorem GS.putO {h0 h : Hp} {gv : Nat} {C C' : Int32} {Lz Lz' : Int64} {GA : Nat → Nat → Int32} (x : GS h0 h gv C Lz GA) : GS h0 (hpU h gv (eO 0 (gobj gv C' Lz'))) gv C' Lz' GA := by
  refine ⟨⟨hpU_eq _ _ _, fun kf hk => ?_⟩, fun q hq => ?_⟩
  · rw [hpU_ne (by have := goff_rng hk; omega)]; exact x.1.2 kf hk
  · rw [hpU_ne (by omega)]; exact x.2 q hq
theorem GS.putA {h0 h : Hp} {gv kf : Nat} {C : Int32} {Lz : Int64} {GA : Nat → Nat → Int32} {f : Nat → Int32} (x : GS h0 h gv C Lz GA) (hk : garr kf = true) : GS h0 (hpU h (gv + goff kf) (eI (glen kf) f)) gv C Lz (upA GA kf f) := by
  have hr := goff_rng hk
  refine ⟨⟨?_, fun q hq => ?_⟩, fun q hq => ?_⟩
  · rw [hpU_ne (by omega)]; exact x.1.1
  · by_cases e : q = kf
    · subst e; rw [hpU_eq, upA_eq]
    · rw [hpU_ne (fun z => e (goff_inj hq hk (by omega))), upA_ne e]; exact x.1.2 q hq
  · rw [hpU_ne (by omega)]; exact x.2 q hq
theorem RwS.putO {h0 h : Hp} {r : Nat} {W W' : Nat → Int32} {CO : Nat → Int64} {FI : Nat → Int32} (x : RwS h0 h r W CO FI) : RwS h0 (hpU h r (eO 3 (robj r W'))) r W' CO FI :=
  ⟨⟨hpU_eq _ _ _, (hpU_ne (by omega)).trans x.1.2.1, (hpU_ne (by omega)).trans x.1.2.2⟩, fun q hq => (hpU_ne (by omega)).trans (x.2 q hq)⟩
theorem RwS.putC {h0 h : Hp} {r : Nat} {W : Nat → Int32} {CO CO' : Nat → Int64} {FI : Nat → Int32} (x : RwS h0 h r W CO FI) : RwS h0 (hpU h (r + 1) (eJ 448 CO')) r W CO' FI :=
  ⟨⟨(hpU_ne (by omega)).trans x.1.1, hpU_eq _ _ _, (hpU_ne (by omega)).trans x.1.2.2⟩, fun q hq => (hpU_ne (by omega)).trans (x.2 q hq)⟩
theorem RwS.putI {h0 h : Hp} {r : Nat} {W : Nat → Int32} {CO : Nat → Int64} {FI FI' : Nat → Int32} (x : RwS h0 h r W CO FI) : RwS h0 (hpU h (r + 2) (eI 448 FI')) r W CO FI' :=
  ⟨⟨(hpU_ne (by omega)).trans x.1.1, (hpU_ne (by omega)).trans x.1.2.1, hpU_eq _ _ _⟩, fun q hq => (hpU_ne (by omega)).trans (x.2 q hq)⟩
section CRULES
variable {k : Cx} {own : String} {cc : ByteArray} {cells slots : Nat} {h0 h : Hp} {nx pc : Nat} {ls : List (Option Value)} {st stk : List Value} {idx : Nat}
theorem rg_iald (kf : Nat) {gv : Nat} {C : Int32} {Lz : Int64} {GA : Nat → Nat → Int32} {i : Int32} {j : Nat} (g : Gd k own cc) (hG : GO h gv C Lz GA) (hk : garr kf = true) (hi : i = nI j) (hj : j < glen kf) (d : decode cc pc = .ok (.iaload, 1)) (kk : Sf k cells slots h nx (pc + 1) ls (.int (GA kf j) :: st)) : Sf k cells slots h nx pc ls (.int i :: .ref (gv + goff kf) :: st) :=
  r_iald g (hG.2 kf hk) hi hj (glen_lt kf) d kk
theorem rg_iast (kf : Nat) {gv : Nat} {C : Int32} {Lz : Int64} {GA : Nat → Nat → Int32} {i x : Int32} {j : Nat} (g : Gd k own cc) (hG : GS h0 h gv C Lz GA) (hb : cBase k ≤ gv) (hk : garr kf = true) (hi : i = nI j) (hj : j < glen kf) (d : decode cc pc = .ok (.iastore, 1)) (kk : ∀ h', GS h0 h' gv C Lz (upA GA kf (upd (GA kf) j x)) → Sf k cells slots h' nx (pc + 1) ls st) : Sf k cells slots h nx pc ls (.int x :: .int i :: .ref (gv + goff kf) :: st) :=
  r_iast g (hG.1.2 kf hk) (Nat.le_trans hb (Nat.le_add_right _ _)) hi hj (glen_lt kf) d (kk _ (hG.putA hk))
theorem rg_cnt {gv : Nat} {C v : Int32} {Lz : Int64} {GA : Nat → Nat → Int32} (g : Gd k own cc) (hG : GS h0 h gv C Lz GA) (hb : cBase k ≤ gv) (f : FL own idx 0 7 .int false) (d : decode cc pc = .ok (.putfield idx, 3)) (kk : ∀ h', GS h0 h' gv v Lz GA → Sf k cells slots h' nx (pc + 3) ls st) : Sf k cells slots h nx pc ls (.int v :: .ref gv :: st) :=
  r_putf g f hG.1.1 hb (show 7 < 15 by decide) rfl rfl d (kk _ hG.putO)
theorem rg_lst {gv : Nat} {C : Int32} {Lz v : Int64} {GA : Nat → Nat → Int32} (g : Gd k own cc) (hG : GS h0 h gv C Lz GA) (hb : cBase k ≤ gv) (f : FL own idx 0 14 .long false) (d : decode cc pc = .ok (.putfield idx, 3)) (kk : ∀ h', GS h0 h' gv C v GA → Sf k cells slots h' nx (pc + 3) ls st) : Sf k cells slots h nx pc ls (.long v :: .ref gv :: st) :=
  r_putf g f hG.1.1 hb (show 14 < 15 by decide) rfl rfl d (kk _ hG.putO)
theorem rr_put {r kf : Nat} {W W' : Nat → Int32} {CO : Nat → Int64} {FI : Nat → Int32} {v : Int32} (g : Gd k own cc) (hR : RwS h0 h r W CO FI) (hb : cBase k ≤ r) (f : FL own idx 3 kf .int false) (hl : kf < 6) (hW : (robj r W).set kf (.int v) = robj r W') (d : decode cc pc = .ok (.putfield idx, 3)) (kk : ∀ h', RwS h0 h' r W' CO FI → Sf k cells slots h' nx (pc + 3) ls st) : Sf k cells slots h nx pc ls (.int v :: .ref r :: st) :=
  r_putf g f hR.1.1 hb hl rfl rfl d (kk _ (by rw [hW]; exact hR.putO))
theorem rr_last {r : Nat} {W : Nat → Int32} {CO : Nat → Int64} {FI : Nat → Int32} {i : Int32} {j : Nat} {x : Int64} (g : Gd k own cc) (hR : RwS h0 h r W CO FI) (hb : cBase k ≤ r) (hi : i = nI j) (hj : j < 448) (d : decode cc pc = .ok (.lastore, 1)) (kk : ∀ h', RwS h0 h' r W (vp_updL CO j x) FI → Sf k cells slots h' nx (pc + 1) ls st) : Sf k cells slots h nx pc ls (.long x :: .int i :: .ref (r + 1) :: st) :=
  r_last g hR.1.2.1 (Nat.le_trans hb (Nat.le_add_right _ _)) hi hj (by decide) d (kk _ hR.putC)
theorem rr_iast {r : Nat} {W : Nat → Int32} {CO : Nat → Int64} {FI : Nat → Int32} {i x : Int32} {j : Nat} (g : Gd k own cc) (hR : RwS h0 h r W CO FI) (hb : cBase k ≤ r) (hi : i = nI j) (hj : j < 448) (d : decode cc pc = .ok (.iastore, 1)) (kk : ∀ h', RwS h0 h' r W CO (upd FI j x) → Sf k cells slots h' nx (pc + 1) ls st) : Sf k cells slots h nx pc ls (.int x :: .int i :: .ref (r + 2) :: st) :=
  r_iast g hR.1.2.2 (Nat.le_trans hb (Nat.le_add_right _ _)) hi hj (by decide) d (kk _ hR.putI)
end CRULES
/-! the rows by sets and places -/
theorem perms_step : ∀ S, S < 64 → S ≠ 0 → perms S = (List.range 6).flatMap (fun i => if S.testBit i = true then (perms (S - 2 ^ i)).map (fun p => i :: p) else []) := by decide +kernel
def plc (s : AS) (c P : Nat) : Nat := if P < 6 then gto s P else s.2.1 c 1
def tpl (s : AS) (c P : Nat) : Nat := if P < 6 then 0 else gdl s c
def pcst (s : AS) (c P : Nat) (p : List Nat) : Nat := rowC (s.2.1 c 0) (gfr s) (gto s) (gw s) (plc s c P) (tpl s c P) p
def okP (s : AS) (c S P : Nat) (p : List Nat) : Bool := if P < 6 then true else okF (firstF s c S (gn s)) p
def bp (s : AS) (c S P : Nat) : Option (Nat × List Nat) := brs (pcst s c P) (okP s c S P) (perms S) none
def bpc (s : AS) (c S P : Nat) : Nat := ((bp s c S P).getD (0, [])).1
def bpr (s : AS) (c S P : Nat) : List Nat := ((bp s c S P).getD (0, [])).2
theorem bp_start (s : AS) (c S : Nat) : bp s c S 6 = gbest s c S := rfl
def bur (s : AS) : List Nat → Nat
  | [] => 0
  | x :: r => (gw s x + 1) + bur s r
def burS (s : AS) (S : Nat) : Nat → Nat
  | 0 => 0
  | n + 1 => burS s S n + (if S.testBit n = true then gw s n + 1 else 0)
/-- what slot i costs as the first of a set -/
def valI (s : AS) (c S P i : Nat) : Nat := gw s i * (tpl s c P + dist (plc s c P) (gfr s i) * s.2.1 c 0) + (tpl s c P + dist (plc s c P) (gfr s i) * s.2.1 c 0 + (3 + dist (gfr s i) (gto s i) * s.2.1 c 0)) + (tpl s c P + dist (plc s c P) (gfr s i) * s.2.1 c 0 + (3 + dist (gfr s i) (gto s i) * s.2.1 c 0) + 3) * burS s (S - 2 ^ i) 6 + bpc s c (S - 2 ^ i) i
/-- the slots that a row of a set may begin with -/
def frs (s : AS) (c S P : Nat) : Nat := if P < 6 then S else if firstF s c S (gn s) = 6 then S else 2 ^ firstF s c S (gn s)
def chs (s : AS) (c S P : Nat) : Option (Nat × Nat) := brs (valI s c S P) (fun i => (frs s c S P).testBit i) (List.range 6) none
theorem rowC_lin (sp : Nat) (s : AS) (d : Nat) : ∀ (p : List Nat) (pl t : Nat), rowC sp (gfr s) (gto s) (gw s) pl (t + d) p = rowC sp (gfr s) (gto s) (gw s) pl t p + d * bur s p
  | [], _, _ => by simp [rowC, bur]
  | x :: r, pl, t => by
    unfold rowC bur
    have ih := rowC_lin sp s d r (gto s x) (t + dist pl (gfr s x) * sp + (3 + dist (gfr s x) (gto s x) * sp) + 3)
    rw [show t + d + dist pl (gfr s x) * sp + (3 + dist (gfr s x) (gto s x) * sp) + 3 = t + dist pl (gfr s x) * sp + (3 + dist (gfr s x) (gto s x) * sp) + 3 + d by omega, ih, show t + d + dist pl (gfr s x) * sp = t + dist pl (gfr s x) * sp + d by omega, Nat.mul_add, Nat.mul_add d, Nat.mul_add d, Nat.mul_one, Nat.mul_comm d (gw s x)]
    omega
theorem sub_bit : ∀ S, S < 64 → ∀ i, i < 6 → S.testBit i = true → ∀ j, j < 6 → (S - 2 ^ i).testBit j = (S.testBit j && decide (j ≠ i)) := by decide +kernel
theorem sub_lt {S i : Nat} (h : S.testBit i = true) : 2 ^ i ≤ S := Nat.ge_two_pow_of_testBit h
theorem burS_cong {s : AS} {S T : Nat} : ∀ n, (∀ j, j < n → S.testBit j = T.testBit j) → burS s S n = burS s T n
  | 0, _ => rfl
  | n + 1, h => by unfold burS; rw [burS_cong n (fun j hj => h j (by omega)), h n (by omega)]
theorem burS_sub {s : AS} {S T i : Nat} (hb : S.testBit i = true) (hT : ∀ j, j < 6 → T.testBit j = (S.testBit j && decide (j ≠ i))) : ∀ n, n ≤ 6 → burS s T n + (if i < n then gw s i + 1 else 0) = burS s S n
  | 0, _ => by simp [burS]
  | n + 1, hn => by
    have ih := burS_sub (s := s) hb hT n (by omega)
    unfold burS
    rw [hT n (by omega)]
    by_cases e : n = i
    · subst e
      rw [if_neg (Nat.lt_irrefl _)] at ih
      rw [hb, if_pos (Nat.lt_succ_self n)]
      simp
      omega
    · rw [decide_eq_true e, Bool.and_true]
      by_cases e2 : i < n
      · rw [if_pos e2] at ih; rw [if_pos (show i < n + 1 by omega)]; split <;> omega
      · rw [if_neg e2] at ih; rw [if_neg (show ¬ i < n + 1 by omega)]; split <;> omega
theorem perms_0 : perms 0 = [[]] := by decide +kernel
theorem bur_perm {s : AS} : ∀ (p : List Nat) (S : Nat), S < 64 → p ∈ perms S → bur s p = burS s S 6
  | [], S, hS, hp => by
    have hS0 : S = 0 := by
      by_cases e : S = 0
      · exact e
      · rw [perms_step S hS e, List.mem_flatMap] at hp
        obtain ⟨i, -, hi⟩ := hp
        split at hi
        · obtain ⟨q, -, hq⟩ := List.mem_map.mp hi
          cases hq
        · cases hi
    subst hS0
    rfl
  | x :: p, S, hS, hp => by
    by_cases e : S = 0
    · subst e
      rw [perms_0] at hp
      cases List.mem_singleton.mp hp
    · rw [perms_step S hS e, List.mem_flatMap] at hp
      obtain ⟨i, h6, hi⟩ := hp
      split at hi
      · next hb =>
        obtain ⟨q, hq, hqq⟩ := List.mem_map.mp hi
        cases hqq
        have ih := bur_perm (s := s) p (S - 2 ^ x) (Nat.lt_of_le_of_lt (Nat.sub_le _ _) hS) hq
        unfold bur
        rw [ih, ← burS_sub (s := s) (S := S) (T := S - 2 ^ x) hb (sub_bit S hS x (List.mem_range.mp h6) hb) 6 (Nat.le_refl _), if_pos (List.mem_range.mp h6)]
        omega
      · cases hi
