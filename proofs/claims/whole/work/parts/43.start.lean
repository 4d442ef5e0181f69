/-! 43: what the machine knows at the law's entry -/
theorem tm1 {i : Nat} {w : Cond} (h : tables_1_1[i]? = some w) : w ∈ lw_tbl := List.mem_append_right _ (List.mem_append_left _ (List.mem_of_getElem? h))
theorem tm2 {i : Nat} {w : Cond} (h : tables_1_2[i]? = some w) : w ∈ lw_tbl := List.mem_append_right _ (List.mem_append_right _ (List.mem_append_left _ (List.mem_of_getElem? h)))
theorem tm3 {i : Nat} {w : Cond} (h : tables_1_3[i]? = some w) : w ∈ lw_tbl := List.mem_append_right _ (List.mem_append_right _ (List.mem_append_right _ (List.mem_append_left _ (List.mem_of_getElem? h))))
theorem st_prim {s : State} {args : Array Value} {ty : FieldType} (h : (Cond.arrayClass ty).before args s = true) : ∃ cA : ClassId, ArrOfT s cA ty ∧ s.vm.findClass ("[" ++ ty.toString) = some cA := by
  obtain ⟨cA, kA, comp, h1, h2, h3⟩ := Cond.arrayClass_spec h
  exact ⟨cA, fun n z => ⟨(fun k h => by cases h), kA, h2, comp, h3⟩, h1⟩
theorem st_over {s : State} {args : Array Value} {C : String} (h : (Cond.arrayOver (.object C)).before args s = true) : ∃ cA : ClassId, ArrOfT s cA (.object C) ∧ va_RA s cA (.object C) := by
  obtain ⟨comp, cA, kA, h1, -, h3, h4, h5⟩ := Cond.arrayOver_spec h
  exact ⟨cA, fun n z => ⟨(fun k h => by cases h), kA, h3, comp, h4⟩, kA, comp, h3, h4, h1, h5⟩
set_option maxHeartbeats 4000000 in
set_option maxRecDepth 100000 in
theorem kk_start {s : State} {b : Nat} (hts : ∀ w ∈ lw_tbl, w.before #[Value.ref b] s = true) (hgv : (Jvm.Cond.and given_1 narrow_1).before #[Value.ref b] s = true) : ∃ (G : Nat → ClassId) (D : va_G), KK G D s.heap.size s s.heap := by
  have hU : ∀ w ∈ UW, w.before #[Value.ref b] s = true := fun w hw => hts w (List.mem_filter.mp hw).1
  have hgf := flat_of_before _ hgv
  have K : ∀ {ci : Nat} {C : String} {T : u_T} {N : Nat}, vwCl[ci]? = some (C, T, N) → Cond.instantiable C N ∈ UW → ∃ (cC : ClassId) (iS : Nat → Nat), u_Kn s C T N cC iS := fun hc hi => u_known hU (cls_in hc) (hU _ hi)
  obtain ⟨c0, i0, k0⟩ := K (ci := 0) rfl nX4_21.2.1
  obtain ⟨c1, i1, k1⟩ := K (ci := 1) rfl nX4_9.2.1
  obtain ⟨c2, i2, k2⟩ := K (ci := 2) rfl nX4_15.2.1
  obtain ⟨c3, i3, k3⟩ := K (ci := 3) rfl nX1_7.2.1
  obtain ⟨c4, i4, k4⟩ := K (ci := 4) rfl nL_8.2.1
  obtain ⟨c5, i5, k5⟩ := K (ci := 5) rfl nL_69.2.1
  obtain ⟨aI, a1, b1⟩ := st_prim (hU _ arr_int)
  obtain ⟨aJ, a2, b2⟩ := st_prim (hU _ arr_long)
  obtain ⟨aZ, a3, b3⟩ := st_prim (hU _ arr_boolean)
  have o1 : (Cond.arrayOver (.object RX1)).before #[Value.ref b] s = true := hts _ (tm1 (i := 23) rfl)
  have o2 : (Cond.arrayOver (.object RX2)).before #[Value.ref b] s = true := hts _ (tm1 (i := 25) rfl)
  obtain ⟨aL, a4, b4⟩ := st_over o1
  obtain ⟨aR, a5, b5⟩ := st_over o2
  have hs : ∀ (n : Nat) (tx : String), Cond.stringRef RX4 n tx ∈ lw_tbl → ∃ sa : Nat, vk_R RX4 n tx sa s := fun n tx hw => by
    have h1 := hts _ hw
    obtain ⟨k, cf, i, a, -, -, -, -, -, h6⟩ := Cond.stringRef_spec k4.2.1 h1
    exact ⟨a, vk_R.of h1 h6⟩
  refine ⟨fun k => match k with | 0 => aI | 1 => aJ | 2 => aZ | 3 => aL | _ => aR, (fun k => match k with | 0 => c0 | 1 => c1 | 2 => c2 | 3 => c3 | 4 => c4 | _ => c5, fun k => match k with | 0 => i0 | 1 => i1 | 2 => i2 | 3 => i3 | 4 => i4 | _ => i5), ⟨fun k q hq => ?_, fun k q hq => ?_⟩, ⟨va_AO.of o1, va_AO.of o2, va_Nw.of rfl (hts _ (tm2 (i := 93) rfl)), ?_, ?_, va_Nc.of (hgf (Cond.not (.castable "java/lang/IllegalStateException" "java/lang/IllegalArgumentException")) (by decide +kernel))⟩, ?_, ?_⟩
  · match k, hq with
    | 0, hq => cases hq; exact k0
    | 1, hq => cases hq; exact k1
    | 2, hq => cases hq; exact k2
    | 3, hq => cases hq; exact k3
    | 4, hq => cases hq; exact k4
    | 5, hq => cases hq; exact k5
    | n + 6, h => simp [vwCl] at h
  · match k, hq with
    | 0, hq => cases hq; exact ⟨a1, b1⟩
    | 1, hq => cases hq; exact ⟨a2, b2⟩
    | 2, hq => cases hq; exact ⟨a3, b3⟩
    | 3, hq => cases hq; exact ⟨a4, b4⟩
    | 4, hq => cases hq; exact ⟨a5, b5⟩
    | n + 5, h => simp [tysG] at h
  · have h0 : ∀ q ∈ thrL, Cond.stringRef RX4 q.1 q.2 ∈ lw_tbl := by
      unfold thrL
      exact List.forall_mem_cons.mpr ⟨tm2 (i := 45) rfl, List.forall_mem_cons.mpr ⟨tm2 (i := 81) rfl, List.forall_mem_cons.mpr ⟨tm2 (i := 158) rfl, List.forall_mem_cons.mpr ⟨tm2 (i := 166) rfl, List.forall_mem_cons.mpr ⟨tm2 (i := 174) rfl, List.forall_mem_cons.mpr ⟨tm2 (i := 182) rfl, List.forall_mem_cons.mpr ⟨tm2 (i := 183) rfl, List.forall_mem_cons.mpr ⟨tm2 (i := 228) rfl, List.forall_mem_cons.mpr ⟨tm2 (i := 236) rfl, List.forall_mem_cons.mpr ⟨tm3 (i := 19) rfl, List.forall_mem_cons.mpr ⟨tm3 (i := 31) rfl, List.forall_mem_cons.mpr ⟨tm3 (i := 43) rfl, List.forall_mem_cons.mpr ⟨tm3 (i := 55) rfl, fun _ z => (List.not_mem_nil z).elim⟩⟩⟩⟩⟩⟩⟩⟩⟩⟩⟩⟩⟩
    exact fun q hq => hs _ _ (h0 q hq)
  · unfold exW
    exact List.forall_mem_cons.mpr ⟨va_Nw.of rfl (hts _ (tm2 (i := 7) rfl)), List.forall_mem_cons.mpr ⟨va_Nw.of rfl (hts _ (tm2 (i := 74) rfl)), List.forall_mem_cons.mpr ⟨va_Nw.of rfl (hts _ (tm2 (i := 9) rfl)), List.forall_mem_cons.mpr ⟨va_Nw.of rfl (hts _ (tm2 (i := 11) rfl)), List.forall_mem_cons.mpr ⟨va_Nw.of rfl (hts _ (tm2 (i := 13) rfl)), fun _ z => (List.not_mem_nil z).elim⟩⟩⟩⟩⟩
  · exact vx_Zqof (hts _ (tm2 (i := 32) rfl)) (hts _ (tm1 (i := 5) rfl)) (hgf (Cond.isRef (.static "java/lang/Throwable" "UNASSIGNED_STACK" "[Ljava/lang/StackTraceElement;")) (by decide +kernel)) (fun a ha z => absurd (show s.heap.size ≤ a from z) (Nat.not_le_of_gt ha))
  · exact vx_Zqof (hts _ (tm2 (i := 34) rfl)) (hts _ (tm1 (i := 5) rfl)) (hgf (Cond.isRef (.static "java/lang/Throwable" "SUPPRESSED_SENTINEL" "Ljava/util/List;")) (by decide +kernel)) (fun a ha z => absurd (show s.heap.size ≤ a from z) (Nat.not_le_of_gt ha))
