/-! ===== the law: what holds at its entry ===== -/
set_option maxRecDepth 100000
theorem WK_in : ∀ w ∈ WK, w ∈ lw_tbl := by
  intro w h
  have e : WK = ([1393, 1389, 1397, 1398, 1399, 409, 475, 902, 1404, 410, 412, 414] : List Nat).filterMap (fun i => tables_1[i]?) := by decide +kernel
  rw [e] at h
  obtain ⟨i, -, hi⟩ := List.mem_filterMap.mp h
  exact List.mem_append_right _ (List.mem_of_getElem? hi)
theorem WN_ot : WN.all Cond.onTables = true := by decide +kernel
theorem WK_ot : WK.all Cond.onTables = true := by decide +kernel
theorem kn_of {s : State} {b : Nat} (hW : ∀ w ∈ WG, w.before #[Value.ref b] s = true) {ci N n : Nat} {C : String} {T : u_T} {ty : Nat → FieldType} (q : CLS ci C T N ty) (hz : Cond.instantiable C n ∈ WG) : ∃ (cC : ClassId) (iS : Nat → Nat), ∀ r, vwCl[ci]? = some r → u_Kn s r.1 r.2.1 r.2.2 cC iS := by
  obtain ⟨cC, iS, h⟩ := u_known (C := C) (T := T) (N := N) (ws := WG) hW q.2.1 (hW _ hz)
  refine ⟨cC, iS, fun r hr => ?_⟩
  rw [q.1] at hr
  cases hr
  exact h
theorem ar_prim {s : State} {b : Nat} {t : FieldType} (ht : ∀ C, t ≠ .object C) (h : (Cond.arrayClass t).before #[Value.ref b] s = true) : ∃ cA : ClassId, ArrOfT s cA t ∧ va_RA s cA t := by
  obtain ⟨c, k, comp, f1, f2, f3⟩ := Cond.arrayClass_spec h
  refine ⟨c, fun N z => ⟨(fun k h => by cases h), k, f2, comp, f3⟩, ?_⟩
  cases t <;> first | exact f1 | exact absurd rfl (ht _)
theorem ar_obj {s : State} {b : Nat} {C : String} (h : (Cond.arrayOver (.object C)).before #[Value.ref b] s = true) : ∃ cA : ClassId, ArrOfT s cA (.object C) ∧ va_RA s cA (.object C) := by
  obtain ⟨comp, c, k, h1, h2, h3, h4, h5⟩ := Cond.arrayOver_spec h
  exact ⟨c, fun N z => ⟨(fun k h => by cases h), k, h3, comp, h4⟩, k, comp, h3, h4, h1, h5⟩
theorem gc_start {s : State} {b : Nat} (hts : ∀ w ∈ lw_tbl, w.before #[Value.ref b] s = true) (hgv : (Jvm.Cond.and given_1 narrow_1).before #[Value.ref b] s = true) : ∃ (D : va_G) (tc : Nat → ClassId), GC D tc (fun q : Nat => s.heap.size ≤ q) s s.heap := by
  have hs := flat_of_before _ hgv
  have hT : ∀ {i : Nat} {w : Cond}, tables_1[i]? = some w → w.before #[Value.ref b] s = true := fun h => hts _ (List.mem_append_right _ (List.mem_of_getElem? h))
  have hW : ∀ w ∈ WG, w.before #[Value.ref b] s = true := fun w h => hts w (List.mem_filter.mp h).1
  have hA : ∀ a : Nat, a < s.heap.size → ¬ (fun q : Nat => s.heap.size ≤ q) a := fun a h z => Nat.not_le.mpr h z
  -- classes
  have hc : ∀ c : Nat, ∃ (cC : ClassId) (iS : Nat → Nat), ∀ r, vwCl[c]? = some r → u_Kn s r.1 r.2.1 r.2.2 cC iS := by
    intro c
    match c with
    | 0 => exact kn_of hW cls_0 wz_RJx4a65c
    | 1 => exact kn_of hW cls_1 wz_RX1
    | 2 => exact kn_of hW cls_2 wz_RX2
    | 3 => exact kn_of hW cls_3 wz_RX3
    | 4 => exact kn_of hW cls_4 wz_RX4
    | 5 => exact kn_of hW cls_5 wz_RX5
    | 6 => exact kn_of hW cls_6 wz_RX6
    | 7 => exact kn_of hW cls_7 wz_RX7
    | 8 => exact kn_of hW cls_8 wz_RX8
    | 9 => exact kn_of hW cls_9 wz_RX9
    | 10 => exact kn_of hW cls_10 wz_RX10
    | 11 => exact kn_of hW cls_11 wz_RX11
    | c + 12 =>
      obtain ⟨c0, i0, -⟩ := kn_of hW cls_0 wz_RJx4a65c
      exact ⟨c0, i0, fun r hr => by simp [vwCl] at hr⟩
  obtain ⟨f, hf⟩ := Classical.axiomOfChoice hc
  obtain ⟨g, hg⟩ := Classical.axiomOfChoice hf
  -- rows
  obtain ⟨t0, h0⟩ := ar_prim (t := .int) (fun C z => by cases z) (hW _ wo_227)
  obtain ⟨t1, h1⟩ := ar_prim (t := .boolean) (fun C z => by cases z) (hW _ wo_1169)
  obtain ⟨t2, h2⟩ := ar_prim (t := .long) (fun C z => by cases z) (hW _ wo_1384)
  have o3 : (Cond.arrayOver (.object "java/lang/Object")).before #[Value.ref b] s = true := hT (i := 278) (by decide +kernel)
  have o4 : (Cond.arrayOver (.object "OneTrip$Client")).before #[Value.ref b] s = true := hT (i := 87) (by decide +kernel)
  have o5 : (Cond.arrayOver (.object "OneTrip$Backup")).before #[Value.ref b] s = true := hT (i := 117) (by decide +kernel)
  have o6 : (Cond.arrayOver (.object "OneTrip$Witness")).before #[Value.ref b] s = true := hT (i := 119) (by decide +kernel)
  have o7 : (Cond.arrayOver (.object "OneTrip$Operation")).before #[Value.ref b] s = true := hT (i := 146) (by decide +kernel)
  obtain ⟨t3, h3⟩ := ar_obj o3
  obtain ⟨t4, h4⟩ := ar_obj o4
  obtain ⟨t5, h5⟩ := ar_obj o5
  obtain ⟨t6, h6⟩ := ar_obj o6
  obtain ⟨t7, h7⟩ := ar_obj o7
  -- the empty list's array
  have ha : (Cond.arrayOf (.static "java/util/ArrayList" "DEFAULTCAPACITY_EMPTY_ELEMENTDATA" "[Ljava/lang/Object;") (.object "java/lang/Object")).before #[Value.ref b] s = true := hs _ (by decide +kernel)
  have hl : (Cond.eq (.length (.static "java/util/ArrayList" "DEFAULTCAPACITY_EMPTY_ELEMENTDATA" "[Ljava/lang/Object;")) (.int 0)).before #[Value.ref b] s = true := hs _ (by decide +kernel)
  have hm : (Cond.isRef (.mirror "[Ljava/lang/Object;")).before #[Value.ref b] s = true := hs _ (by decide +kernel)
  have hu : (Cond.isRef (.static "java/lang/Throwable" "UNASSIGNED_STACK" "[Ljava/lang/StackTraceElement;")).before #[Value.ref b] s = true := hs _ (by decide +kernel)
  have hv : (Cond.isRef (.static "java/lang/Throwable" "SUPPRESSED_SENTINEL" "Ljava/util/List;")).before #[Value.ref b] s = true := hs _ (by decide +kernel)
  have hn1 : (Cond.not (.castable "java/lang/IllegalArgumentException" "java/lang/IndexOutOfBoundsException")).before #[Value.ref b] s = true := hs _ (by decide +kernel)
  have hn2 : (Cond.not (.castable "java/lang/UnsupportedOperationException" "java/lang/IndexOutOfBoundsException")).before #[Value.ref b] s = true := hs _ (by decide +kernel)
  obtain ⟨te, hte, hTe⟩ := va_Tof (N := 0) (f := fun _ => Value.null) (A := fun q : Nat => s.heap.size ≤ q) (by decide) ha (va_eqt hl) (fun j hj => absurd hj (Nat.not_lt_zero j)) hA
  obtain ⟨mi, hMi⟩ := va_Mi.of hm
  have wl1 : (Cond.laysStatic "java/util/ArrayList" "DEFAULTCAPACITY_EMPTY_ELEMENTDATA" "[Ljava/lang/Object;").before #[Value.ref b] s = true := hT (i := 65) (by decide +kernel)
  have wl2 : (Cond.laysStatic "java/lang/Throwable" "UNASSIGNED_STACK" "[Ljava/lang/StackTraceElement;").before #[Value.ref b] s = true := hT (i := 434) (by decide +kernel)
  have wl3 : (Cond.laysStatic "java/lang/Throwable" "SUPPRESSED_SENTINEL" "Ljava/util/List;").before #[Value.ref b] s = true := hT (i := 436) (by decide +kernel)
  have hZ := va_Zref wl1 (hW _ wn_RJx4a65c) hte hA
  refine ⟨(f, g), fun k => if k = 0 then t0 else if k = 1 then t1 else if k = 2 then t2 else if k = 3 then t3 else if k = 4 then t4 else if k = 5 then t5 else if k = 6 then t6 else if k = 7 then t7 else if k = 100 then te else mi, ⟨fun c r hr => hg c r hr, fun k q hq => ?_⟩, fun w hw => va_Nw.of (List.all_eq_true.mp WN_ot w hw) (hts w (WN_tab w hw)), ⟨vx_Zqof wl2 (hW _ wn_java_lang_Throwable) hu hA, vx_Zqof wl3 (hW _ wn_java_lang_Throwable) hv hA⟩, ⟨va_AO.of o4, va_AO.of o5, va_AO.of o6, va_AO.of o7, va_AO.of o3⟩, fun w hw => va_Nw.of (List.all_eq_true.mp WK_ot w hw) (hts w (WK_in w hw)), ⟨hZ, hTe, hMi⟩, ⟨va_Nc.of hn1, va_Nc.of hn2⟩⟩
  match k, hq with
  | 0, hq => cases hq; exact h0
  | 1, hq => cases hq; exact h1
  | 2, hq => cases hq; exact h2
  | 3, hq => cases hq; exact h3
  | 4, hq => cases hq; exact h4
  | 5, hq => cases hq; exact h5
  | 6, hq => cases hq; exact h6
  | 7, hq => cases hq; exact h7
  | k + 8, hq => simp [ztys] at hq
