/-! what the statement gives at the start -/
theorem tbl_WL : ∀ w ∈ WL, w ∈ lw_tbl := fun w hw => (List.mem_filter.mp hw).1
theorem NGl_tbl : ∀ w ∈ NGl, w ∈ lw_tbl := by decide +kernel
theorem arr_prim {args : Array Value} {s : State} {ty : FieldType} (h : (Cond.arrayClass ty).before args s = true) : ∃ c : ClassId, ArrOfT s c ty ∧ s.vm.findClass ("[" ++ ty.toString) = some c := by
  obtain ⟨c, k, comp, h1, h2, h3⟩ := Cond.arrayClass_spec h
  exact ⟨c, fun N z => ⟨(fun k h => by cases h), k, h2, comp, h3⟩, h1⟩
theorem arr_obj {args : Array Value} {s : State} {n : String} (h : (Cond.arrayOver (.object n)).before args s = true) : ∃ c : ClassId, ArrOfT s c (.object n) ∧ va_RA s c (.object n) := by
  obtain ⟨comp, c, k, h1, -, h2, h3, h4⟩ := Cond.arrayOver_spec h
  exact ⟨c, fun N z => ⟨(fun k h => by cases h), k, h2, comp, h3⟩, k, comp, h2, h3, h1, h4⟩
theorem arr_arr {args : Array Value} {s : State} (h : (Cond.arrayOver (.array .int)).before args s = true) : ∃ c : ClassId, ArrOfT s c (.array .int) ∧ va_RA s c (.array .int) := by
  obtain ⟨comp, c, k, h1, h2, h3, h4⟩ := Cond.arrayOver_specA h
  exact ⟨c, fun N z => ⟨(fun k h => by cases h), k, h2, comp, h3⟩, h4⟩
theorem str_at {args : Array Value} {s : State} {own tx : String} {k : Nat} (h1 : (Cond.stringRef own k tx).before args s = true) (h2 : (Cond.exactly (.string own k) "java/lang/String").before args s = true) : ∃ a : Nat, vk_R own k tx a s := by
  obtain ⟨a, c, cell, kk, q1, -⟩ := Cond.exactly_spec (args := args) (first := s) (o := none) (s := s) (idx := []) h2
  exact ⟨a, vk_R.of h1 q1⟩
theorem str_tbl : ∀ q ∈ strG, Cond.stringRef RX3 q.1 q.2 ∈ lw_tbl := by decide +kernel
set_option maxHeartbeats 4000000 in
theorem env_start {args : Array Value} {s : State} (hts : ∀ w ∈ lw_tbl, w.before args s = true) (hgv : (Jvm.Cond.and given_1 narrow_1).before args s = true) : ∃ (D : va_G) (ct : Nat → ClassId) (sa : Nat → Nat), EnvG s.heap.size D ct sa s := by
  have hWL : ∀ w ∈ WL, w.before args s = true := fun w hw => hts w (tbl_WL w hw)
  have hs := flat_of_before _ hgv
  obtain ⟨c0, i0, k0⟩ := u_known hWL wu_X0 (hWL _ in_X0)
  obtain ⟨c1, i1, k1⟩ := u_known hWL wu_X1 (hWL _ in_X1)
  obtain ⟨c2, i2, k2⟩ := u_known hWL wu_X2 (hWL _ in_X2)
  obtain ⟨c3, i3, k3⟩ := u_known hWL wu_X3 (hWL _ in_X3)
  obtain ⟨c4, i4, k4⟩ := u_known hWL wu_X4 (hWL _ in_X4)
  obtain ⟨a0, p0, r0⟩ := arr_prim (hWL _ ac_int)
  obtain ⟨a1, p1, r1⟩ := arr_prim (hWL _ ac_boolean)
  obtain ⟨a2, p2, r2⟩ := arr_prim (hWL _ ac_long)
  have wS : (Cond.arrayOver (.object RX1)).before args s = true := hts _ (by decide +kernel)
  have wT : (Cond.arrayOver (.object RX2)).before args s = true := hts _ (by decide +kernel)
  have wI : (Cond.arrayOver (.array .int)).before args s = true := hts _ (by decide +kernel)
  obtain ⟨a3, p3, r3⟩ := arr_obj wS
  obtain ⟨a4, p4, r4⟩ := arr_obj wT
  obtain ⟨a5, p5, r5⟩ := arr_arr wI
  obtain ⟨s52, e52⟩ := str_at (hts _ (str_tbl _ (List.mem_of_getElem? (i := 0) rfl))) (hs (Cond.exactly (.string "SaveRestore" 52) "java/lang/String") (by decide +kernel))
  obtain ⟨s154, e154⟩ := str_at (hts _ (str_tbl _ (List.mem_of_getElem? (i := 1) rfl))) (hs (Cond.exactly (.string "SaveRestore" 154) "java/lang/String") (by decide +kernel))
  obtain ⟨s163, e163⟩ := str_at (hts _ (str_tbl _ (List.mem_of_getElem? (i := 2) rfl))) (hs (Cond.exactly (.string "SaveRestore" 163) "java/lang/String") (by decide +kernel))
  obtain ⟨s165, e165⟩ := str_at (hts _ (str_tbl _ (List.mem_of_getElem? (i := 3) rfl))) (hs (Cond.exactly (.string "SaveRestore" 165) "java/lang/String") (by decide +kernel))
  obtain ⟨s85, e85⟩ := str_at (hts _ (str_tbl _ (List.mem_of_getElem? (i := 4) rfl))) (hs (Cond.exactly (.string "SaveRestore" 85) "java/lang/String") (by decide +kernel))
  obtain ⟨s95, e95⟩ := str_at (hts _ (str_tbl _ (List.mem_of_getElem? (i := 5) rfl))) (hs (Cond.exactly (.string "SaveRestore" 95) "java/lang/String") (by decide +kernel))
  obtain ⟨s129, e129⟩ := str_at (hts _ (str_tbl _ (List.mem_of_getElem? (i := 6) rfl))) (hs (Cond.exactly (.string "SaveRestore" 129) "java/lang/String") (by decide +kernel))
  obtain ⟨s137, e137⟩ := str_at (hts _ (str_tbl _ (List.mem_of_getElem? (i := 7) rfl))) (hs (Cond.exactly (.string "SaveRestore" 137) "java/lang/String") (by decide +kernel))
  have hA : ∀ a : Nat, a < s.heap.size → ¬ Ab s.heap.size a := fun a h1 h2 => absurd h1 (Nat.not_lt.mpr h2)
  refine ⟨(fun c => if c = 0 then c0 else if c = 1 then c1 else if c = 2 then c2 else if c = 3 then c3 else c4, fun c => if c = 0 then i0 else if c = 1 then i1 else if c = 2 then i2 else if c = 3 then i3 else i4), fun k => if k = 0 then a0 else if k = 1 then a1 else if k = 2 then a2 else if k = 3 then a3 else if k = 4 then a4 else a5,
    fun k => if k = 52 then s52 else if k = 154 then s154 else if k = 163 then s163 else if k = 165 then s165 else if k = 85 then s85 else if k = 95 then s95 else if k = 129 then s129 else s137, Nat.le_refl _, ⟨fun c q hq => ?_, fun k q hq => ?_⟩, ⟨?_, ?_⟩, fun w hw => va_Nw.of (NGl_on w hw) (hts w (NGl_tbl w hw)), fun q hq => ?_, ⟨?_, ?_, ?_⟩, ⟨va_AO.of wT, va_AO.of wS, wI⟩⟩
  · have hc : c < 5 := (List.getElem?_eq_some_iff.mp hq).1
    rcases (show c = 0 ∨ c = 1 ∨ c = 2 ∨ c = 3 ∨ c = 4 by omega) with rfl | rfl | rfl | rfl | rfl <;> cases hq
    · exact k0
    · exact k1
    · exact k2
    · exact k3
    · exact k4
  · have hk : k < 6 := (List.getElem?_eq_some_iff.mp hq).1
    rcases (show k = 0 ∨ k = 1 ∨ k = 2 ∨ k = 3 ∨ k = 4 ∨ k = 5 by omega) with rfl | rfl | rfl | rfl | rfl | rfl <;> cases hq
    · exact ⟨p0, r0⟩
    · exact ⟨p1, r1⟩
    · exact ⟨p2, r2⟩
    · exact ⟨p3, r3⟩
    · exact ⟨p4, r4⟩
    · exact ⟨p5, r5⟩
  · exact vx_Zqof (hts (Cond.laysStatic "java/lang/Throwable" "UNASSIGNED_STACK" "[Ljava/lang/StackTraceElement;") (by decide +kernel)) (hts (Cond.initialized "java/lang/Throwable") (by decide +kernel)) (hs (Cond.isRef (.static "java/lang/Throwable" "UNASSIGNED_STACK" "[Ljava/lang/StackTraceElement;")) (by decide +kernel)) hA
  · exact vx_Zqof (hts (Cond.laysStatic "java/lang/Throwable" "SUPPRESSED_SENTINEL" "Ljava/util/List;") (by decide +kernel)) (hts (Cond.initialized "java/lang/Throwable") (by decide +kernel)) (hs (Cond.isRef (.static "java/lang/Throwable" "SUPPRESSED_SENTINEL" "Ljava/util/List;")) (by decide +kernel)) hA
  · simp only [strG, List.mem_cons, List.not_mem_nil, or_false] at hq
    rcases hq with rfl | rfl | rfl | rfl | rfl | rfl | rfl | rfl
    · exact e52
    · exact e154
    · exact e163
    · exact e165
    · exact e85
    · exact e95
    · exact e129
    · exact e137
  · exact va_Nc.of (hs (Cond.not (.castable "java/lang/IndexOutOfBoundsException" "java/util/NoSuchElementException")) (by decide +kernel))
  · exact va_Nc.of (hs (Cond.not (.castable "java/lang/IllegalStateException" "java/util/NoSuchElementException")) (by decide +kernel))
  · exact va_Nc.of (hs (Cond.not (.castable "java/lang/IllegalStateException" "java/lang/IndexOutOfBoundsException")) (by decide +kernel))
