/-! Thing(n, g), Row(t, i, next), Save(), Row.putBack; object -/
theorem mput_none {M : Mem} {a b : Nat} {e : va_E} (h : mput M a e b = none) : b ≠ a ∧ M b = none := by
  by_cases hb : b = a
  · subst hb; rw [mput_eq] at h; cases h
  · rw [mput_ne hb] at h; exact ⟨hb, h⟩
theorem some_ne {M : Mem} {a b : Nat} {e : va_E} (h : M a = some e) (h2 : M b = none) : a ≠ b := fun q => by rw [q, h2] at h; cases h
abbrev ar0 (ct : Nat → ClassId) (N : Nat) : va_E := .inl (ct 0, N, .inl (fun _ => 0))
set_option maxHeartbeats 4000000 in
set_option maxRecDepth 100000 in
theorem c_ThingInit (l : Launch) (hl : l.stackTraces = false) (base : Nat) (D : va_G) (ct : Nat → ClassId) (sa : Nat → Nat) {M : Mem} {t : Nat} (n g : Int32) (hg : g = 0 ∨ g = 1) (ht : M t = some (.inr (2, [.int 0, .int 0, .null, .null, .null]))) :
    CM l yX2_init (.code yX2_init cX2_init 3 none :: WL) (rmK 1 3 24) base D ct sa M [.ref t, .int n, .int g] (fun v M' => v = none ∧ ∃ q1 q2 q3, (M q1 = none ∧ M q2 = none ∧ M q3 = none) ∧ (q1 ≠ q2 ∧ q1 ≠ q3 ∧ q2 ≠ q3) ∧ M' t = some (.inr (2, [.int n, .int g, .ref q1, .ref q2, .ref q3])) ∧ (M' q1 = some (ar0 ct 8) ∧ M' q2 = some (ar0 ct 8) ∧ M' q3 = some (ar0 ct 8)) ∧ ∀ a, a ≠ t → a ≠ q1 → a ≠ q2 → a ≠ q3 → M' a = M a) := by
  refine CM.of hl (by decide) (Nat.le_of_ble_eq_true rfl) ?_
  intro p e s m below meth c C hr hnm
  refine V_aload_n C dX2_init_0 (by rfl) ?_
  refine V_objInit C ml_X2_3 im_oi co_oi dX2_init_1 (by decide) (by decide) ?_
  refine V_aload_n C dX2_init_4 (by rfl) ?_
  refine V_bipush C (nI 8) dX2_init_5 (by decide) ?_
  refine V_newI C 8 ac_int (by decide) (by decide) (by decide) (by decide) (by decide) dX2_init_7 (fun q1 h1 => ?_)
  have n1 : t ≠ q1 := some_ne ht h1
  refine V_putF C (ci := 2) ((mput_ne n1).trans ht) rfl wu_X2 2 (by decide) fl_X2_9 rfl tyX2 tyX2_ok nmX2 rfl hnm rfl (by rfl) (by rfl) (Nat.le_of_ble_eq_true rfl) dX2_init_9 ?_
  refine V_aload_n C dX2_init_12 (by rfl) ?_
  refine V_bipush C (nI 8) dX2_init_13 (by decide) ?_
  refine V_newI C 8 ac_int (by decide) (by decide) (by decide) (by decide) (by decide) dX2_init_15 (fun q2 h2 => ?_)
  obtain ⟨n2, h2a⟩ := mput_none h2
  obtain ⟨n21, h2b⟩ := mput_none h2a
  refine V_putF C (ci := 2) ((mput_ne n2.symm).trans (mput_eq _ _ _)) rfl wu_X2 3 (by decide) fl_X2_15 rfl tyX2 tyX2_ok nmX2 rfl hnm rfl (by rfl) (by rfl) (Nat.le_of_ble_eq_true rfl) dX2_init_17 ?_
  refine V_aload_n C dX2_init_20 (by rfl) ?_
  refine V_bipush C (nI 8) dX2_init_21 (by decide) ?_
  refine V_newI C 8 ac_int (by decide) (by decide) (by decide) (by decide) (by decide) dX2_init_23 (fun q3 h3 => ?_)
  obtain ⟨n3, h3a⟩ := mput_none h3
  obtain ⟨n32, h3b⟩ := mput_none h3a
  obtain ⟨-, h3c⟩ := mput_none h3b
  obtain ⟨n31, h3d⟩ := mput_none h3c
  refine V_putF C (ci := 2) ((mput_ne n3.symm).trans (mput_eq _ _ _)) rfl wu_X2 4 (by decide) fl_X2_18 rfl tyX2 tyX2_ok nmX2 rfl hnm rfl (by rfl) (by rfl) (Nat.le_of_ble_eq_true rfl) dX2_init_25 ?_
  refine V_aload_n C dX2_init_28 (by rfl) ?_
  refine V_iload_n C dX2_init_29 (by rfl) ?_
  refine V_putF C (ci := 2) (mput_eq _ _ _) rfl wu_X2 0 (by decide) fl_X2_21 rfl tyX2 tyX2_ok nmX2 rfl hnm rfl (by rfl) (by rfl) (Nat.le_of_ble_eq_true rfl) dX2_init_30 ?_
  refine V_aload_n C dX2_init_33 (by rfl) ?_
  refine V_iload_n C dX2_init_34 (by rfl) ?_
  refine V_putF C (ci := 2) (mput_eq _ _ _) rfl wu_X2 1 (by decide) fl_X2_25 rfl tyX2 tyX2_ok nmX2 rfl hnm rfl (by rcases hg with rfl | rfl <;> rfl) (by rcases hg with rfl | rfl <;> rfl) (Nat.le_of_ble_eq_true rfl) dX2_init_35 ?_
  exact V_vretM C hr (by decide) (by decide) dX2_init_38 ⟨rfl, q1, q2, q3, ⟨h1, h2b, h3d⟩, ⟨n21.symm, n31.symm, n32.symm⟩, mput_eq _ _ _, ⟨by simp [mput, n1.symm, n21.symm, n31.symm], by simp [mput, n2, n32.symm], by simp [mput, n3]⟩, fun a g1 g2 g3 g4 => by simp [mput, g1, g2, g3, g4]⟩
set_option maxHeartbeats 4000000 in
set_option maxRecDepth 100000 in
theorem c_SaveInit (l : Launch) (hl : l.stackTraces = false) (base : Nat) (D : va_G) (ct : Nat → ClassId) (sa : Nat → Nat) {M : Mem} {t : Nat} (ht : M t = some (.inr (1, [.int 0, .int 0, .int 0, .null, .null, .int 0]))) :
    CM l yX1_init (.code yX1_init cX1_init 1 none :: WL) (rmK 1 1 8) base D ct sa M [.ref t] (fun v M' => v = none ∧ ∃ q1, M q1 = none ∧ M' t = some (.inr (1, [.int 0, .int 0, .int 0, .ref q1, .null, .int 0])) ∧ M' q1 = some (ar0 ct 8) ∧ ∀ a, a ≠ t → a ≠ q1 → M' a = M a) := by
  refine CM.of hl (by decide) (Nat.le_of_ble_eq_true rfl) ?_
  intro p e s m below meth c C hr hnm
  refine V_aload_n C dX1_init_0 (by rfl) ?_
  refine V_objInit C ml_X1_3 im_oi co_oi dX1_init_1 (by decide) (by decide) ?_
  refine V_aload_n C dX1_init_4 (by rfl) ?_
  refine V_iconst C (0) dX1_init_5 (by decide) ?_
  refine V_put C (ci := 1) ht rfl wu_X1 0 (by decide) fl_X1_9 rfl tyX1 tyX1_ok nmX1 rfl (by rfl) (by rfl) (Nat.le_of_ble_eq_true rfl) dX1_init_6 ?_
  refine V_aload_n C dX1_init_9 (by rfl) ?_
  refine V_iconst C (0) dX1_init_10 (by decide) ?_
  refine V_put C (ci := 1) (mput_eq _ _ _) rfl wu_X1 1 (by decide) fl_X1_15 rfl tyX1 tyX1_ok nmX1 rfl (by rfl) (by rfl) (Nat.le_of_ble_eq_true rfl) dX1_init_11 ?_
  refine V_aload_n C dX1_init_14 (by rfl) ?_
  refine V_iconst C (0) dX1_init_15 (by decide) ?_
  refine V_put C (ci := 1) (mput_eq _ _ _) rfl wu_X1 2 (by decide) fl_X1_18 rfl tyX1 tyX1_ok nmX1 rfl (by rfl) (by rfl) (Nat.le_of_ble_eq_true rfl) dX1_init_16 ?_
  refine V_aload_n C dX1_init_19 (by rfl) ?_
  refine V_bipush C (nI 8) dX1_init_20 (by decide) ?_
  refine V_newI C 8 ac_int (by decide) (by decide) (by decide) (by decide) (by decide) dX1_init_22 (fun q1 h1 => ?_)
  obtain ⟨n1, h1a⟩ := mput_none h1
  obtain ⟨-, h1b⟩ := mput_none h1a
  obtain ⟨-, h1c⟩ := mput_none h1b
  refine V_putF C (ci := 1) ((mput_ne n1.symm).trans (mput_eq _ _ _)) rfl wu_X1 3 (by decide) fl_X1_21 rfl tyX1 tyX1_ok nmX1 rfl hnm rfl (by rfl) (by rfl) (Nat.le_of_ble_eq_true rfl) dX1_init_24 ?_
  refine V_aload_n C dX1_init_27 (by rfl) ?_
  refine V_null C dX1_init_28 ?_
  refine V_put C (ci := 1) (mput_eq _ _ _) rfl wu_X1 4 (by decide) fl_X1_25 rfl tyX1 tyX1_ok nmX1 rfl (by rfl) (by rfl) (Nat.le_of_ble_eq_true rfl) dX1_init_29 ?_
  refine V_aload_n C dX1_init_32 (by rfl) ?_
  refine V_iconst C (0) dX1_init_33 (by decide) ?_
  refine V_put C (ci := 1) (mput_eq _ _ _) rfl wu_X1 5 (by decide) fl_X1_29 rfl tyX1 tyX1_ok nmX1 rfl (by rfl) (by rfl) (Nat.le_of_ble_eq_true rfl) dX1_init_34 ?_
  exact V_vretM C hr (by decide) (by decide) dX1_init_37 ⟨rfl, q1, h1c, mput_eq _ _ _, by simp [mput, n1], fun a g1 g2 => by simp [mput, g1, g2]⟩
set_option maxHeartbeats 4000000 in
set_option maxRecDepth 100000 in
theorem c_RowInit (l : Launch) (hl : l.stackTraces = false) (base : Nat) (D : va_G) (ct : Nat → ClassId) (sa : Nat → Nat) {M : Mem} {t u a9 a10 a11 j : Nat} {nx : Option Nat} {y1 y2 : Value} {f w : Nat → Int32} (hj : j < 8) (ht : M t = some (.inr (0, [.null, .int 0, .int 0, .int 0, .null]))) (h2 : M u = some (.inr (2, [y1, y2, .ref a9, .ref a10, .ref a11]))) (hf : M a9 = some (.inl (ct 0, 8, .inl f))) (hw : M a11 = some (.inl (ct 0, 8, .inl w))) :
    CM l yX0_init (.code yX0_init cX0_init 4 none :: WL) (rmK 1 0 0) base D ct sa M [.ref t, .ref u, .int (nI j), va_rf nx] (fun v M' => v = none ∧ M' t = some (.inr (0, [.ref u, .int (nI j), .int (f j), .int (w j), va_rf nx])) ∧ ∀ a, a ≠ t → M' a = M a) := by
  have n2 : u ≠ t := fun e => by rw [e, ht] at h2; cases h2
  have n9 : a9 ≠ t := fun e => by rw [e, ht] at hf; cases hf
  have n11 : a11 ≠ t := fun e => by rw [e, ht] at hw; cases hw
  cases nx with
  | none =>
    refine CM.of hl (by decide) (Nat.le_of_ble_eq_true rfl) ?_
    intro p e s m below meth c C hr hnm
    refine V_aload_n C dX0_init_0 (by rfl) ?_
    refine V_objInit C ml_X0_1 im_oi co_oi dX0_init_1 (by decide) (by decide) ?_
    refine V_aload_n C dX0_init_4 (by rfl) ?_
    refine V_aload_n C dX0_init_5 (by rfl) ?_
    refine V_putF C (ci := 0) ht rfl wu_X0 0 (by decide) fl_X0_7 rfl tyX0 tyX0_ok nmX0 rfl hnm rfl (by rfl) (by rfl) (Nat.le_of_ble_eq_true rfl) dX0_init_6 ?_
    refine V_aload_n C dX0_init_9 (by rfl) ?_
    refine V_iload_n C dX0_init_10 (by rfl) ?_
    refine V_putF C (ci := 0) (mput_eq _ _ _) rfl wu_X0 1 (by decide) fl_X0_13 rfl tyX0 tyX0_ok nmX0 rfl hnm rfl (by rfl) (by rfl) (Nat.le_of_ble_eq_true rfl) dX0_init_11 ?_
    refine V_aload_n C dX0_init_14 (by rfl) ?_
    refine V_aload_n C dX0_init_15 (by rfl) ?_
    refine V_get C (ci := 2) ((mput_ne n2).trans ((mput_ne n2).trans h2)) rfl wu_X2 2 (by decide) fl_X0_17 rfl (by rfl) dX0_init_16 ?_
    refine V_iload_n C dX0_init_19 (by rfl) ?_
    refine N_iald C ((mput_ne n9).trans ((mput_ne n9).trans hf)) hj (by decide) dX0_init_20 ?_
    refine V_putF C (ci := 0) (mput_eq _ _ _) rfl wu_X0 2 (by decide) fl_X0_23 rfl tyX0 tyX0_ok nmX0 rfl hnm rfl (by rfl) (by rfl) (Nat.le_of_ble_eq_true rfl) dX0_init_21 ?_
    refine V_aload_n C dX0_init_24 (by rfl) ?_
    refine V_aload_n C dX0_init_25 (by rfl) ?_
    refine V_get C (ci := 2) ((mput_ne n2).trans ((mput_ne n2).trans ((mput_ne n2).trans h2))) rfl wu_X2 4 (by decide) fl_X0_26 rfl (by rfl) dX0_init_26 ?_
    refine V_iload_n C dX0_init_29 (by rfl) ?_
    refine N_iald C ((mput_ne n11).trans ((mput_ne n11).trans ((mput_ne n11).trans hw))) hj (by decide) dX0_init_30 ?_
    refine V_putF C (ci := 0) (mput_eq _ _ _) rfl wu_X0 3 (by decide) fl_X0_29 rfl tyX0 tyX0_ok nmX0 rfl hnm rfl (by rfl) (by rfl) (Nat.le_of_ble_eq_true rfl) dX0_init_31 ?_
    refine V_aload_n C dX0_init_34 (by rfl) ?_
    refine V_aload_nN C dX0_init_35 (by rfl) ?_
    refine V_putF C (ci := 0) (mput_eq _ _ _) rfl wu_X0 4 (by decide) fl_X0_32 rfl tyX0 tyX0_ok nmX0 rfl hnm rfl (by rfl) (by rfl) (Nat.le_of_ble_eq_true rfl) dX0_init_36 ?_
    exact V_vretM C hr (by decide) (by decide) dX0_init_39 ⟨rfl, mput_eq _ _ _, fun a g1 => by simp [mput, g1]⟩
  | some nx =>
    refine CM.of hl (by decide) (Nat.le_of_ble_eq_true rfl) ?_
    intro p e s m below meth c C hr hnm
    refine V_aload_n C dX0_init_0 (by rfl) ?_
    refine V_objInit C ml_X0_1 im_oi co_oi dX0_init_1 (by decide) (by decide) ?_
    refine V_aload_n C dX0_init_4 (by rfl) ?_
    refine V_aload_n C dX0_init_5 (by rfl) ?_
    refine V_putF C (ci := 0) ht rfl wu_X0 0 (by decide) fl_X0_7 rfl tyX0 tyX0_ok nmX0 rfl hnm rfl (by rfl) (by rfl) (Nat.le_of_ble_eq_true rfl) dX0_init_6 ?_
    refine V_aload_n C dX0_init_9 (by rfl) ?_
    refine V_iload_n C dX0_init_10 (by rfl) ?_
    refine V_putF C (ci := 0) (mput_eq _ _ _) rfl wu_X0 1 (by decide) fl_X0_13 rfl tyX0 tyX0_ok nmX0 rfl hnm rfl (by rfl) (by rfl) (Nat.le_of_ble_eq_true rfl) dX0_init_11 ?_
    refine V_aload_n C dX0_init_14 (by rfl) ?_
    refine V_aload_n C dX0_init_15 (by rfl) ?_
    refine V_get C (ci := 2) ((mput_ne n2).trans ((mput_ne n2).trans h2)) rfl wu_X2 2 (by decide) fl_X0_17 rfl (by rfl) dX0_init_16 ?_
    refine V_iload_n C dX0_init_19 (by rfl) ?_
    refine N_iald C ((mput_ne n9).trans ((mput_ne n9).trans hf)) hj (by decide) dX0_init_20 ?_
    refine V_putF C (ci := 0) (mput_eq _ _ _) rfl wu_X0 2 (by decide) fl_X0_23 rfl tyX0 tyX0_ok nmX0 rfl hnm rfl (by rfl) (by rfl) (Nat.le_of_ble_eq_true rfl) dX0_init_21 ?_
    refine V_aload_n C dX0_init_24 (by rfl) ?_
    refine V_aload_n C dX0_init_25 (by rfl) ?_
    refine V_get C (ci := 2) ((mput_ne n2).trans ((mput_ne n2).trans ((mput_ne n2).trans h2))) rfl wu_X2 4 (by decide) fl_X0_26 rfl (by rfl) dX0_init_26 ?_
    refine V_iload_n C dX0_init_29 (by rfl) ?_
    refine N_iald C ((mput_ne n11).trans ((mput_ne n11).trans ((mput_ne n11).trans hw))) hj (by decide) dX0_init_30 ?_
    refine V_putF C (ci := 0) (mput_eq _ _ _) rfl wu_X0 3 (by decide) fl_X0_29 rfl tyX0 tyX0_ok nmX0 rfl hnm rfl (by rfl) (by rfl) (Nat.le_of_ble_eq_true rfl) dX0_init_31 ?_
    refine V_aload_n C dX0_init_34 (by rfl) ?_
    refine V_aload_n C dX0_init_35 (by rfl) ?_
    refine V_putF C (ci := 0) (mput_eq _ _ _) rfl wu_X0 4 (by decide) fl_X0_32 rfl tyX0 tyX0_ok nmX0 rfl hnm rfl (by rfl) (by rfl) (Nat.le_of_ble_eq_true rfl) dX0_init_36 ?_
    exact V_vretM C hr (by decide) (by decide) dX0_init_39 ⟨rfl, mput_eq _ _ _, fun a g1 => by simp [mput, g1]⟩
set_option maxHeartbeats 4000000 in
set_option maxRecDepth 100000 in
theorem c_putBack (l : Launch) (hl : l.stackTraces = false) (base : Nat) (D : va_G) (ct : Nat → ClassId) (sa : Nat → Nat) {M : Mem} {t u a9 a10 a11 j : Nat} {y1 y2 y5 : Value} {v w0 : Int32} {f w : Nat → Int32} (hj : j < 8) (ht : M t = some (.inr (0, [.ref u, .int (nI j), .int v, .int w0, y5]))) (h2 : M u = some (.inr (2, [y1, y2, .ref a9, .ref a10, .ref a11]))) (hf : M a9 = some (.inl (ct 0, 8, .inl f))) (hw : M a11 = some (.inl (ct 0, 8, .inl w))) (na : a9 ≠ a11) :
    CT l yX0_putBack (.code yX0_putBack cX0_putBack 1 none :: WL) (rmK 1 0 0) base D ct sa M [.ref t] (fun v9 M' => v9 = none ∧ M' = mput (mput M a9 (.inl (ct 0, 8, .inl (upd f j v)))) a11 (.inl (ct 0, 8, .inl (upd w j w0)))) noX := by
  have n29 : u ≠ a9 := fun e => by rw [e, hf] at h2; cases h2
  have n9 : t ≠ a9 := fun e => by rw [e, hf] at ht; cases ht
  refine CT.of hl (by decide) (Nat.le_of_ble_eq_true rfl) ?_
  intro p e s m below meth c C hr hx
  refine V_aload_n C dX0_putBack_0 (by rfl) ?_
  refine V_get C (ci := 0) ht rfl wu_X0 0 (by decide) fl_X0_7 rfl (by rfl) dX0_putBack_1 ?_
  refine V_get C (ci := 2) h2 rfl wu_X2 2 (by decide) fl_X0_17 rfl (by rfl) dX0_putBack_4 ?_
  refine V_aload_n C dX0_putBack_7 (by rfl) ?_
  refine V_get C (ci := 0) ht rfl wu_X0 1 (by decide) fl_X0_13 rfl (by rfl) dX0_putBack_8 ?_
  refine V_aload_n C dX0_putBack_11 (by rfl) ?_
  refine V_get C (ci := 0) ht rfl wu_X0 2 (by decide) fl_X0_23 rfl (by rfl) dX0_putBack_12 ?_
  refine N_iast C hf hj (by decide) dX0_putBack_15 ?_
  refine V_aload_n C dX0_putBack_16 (by rfl) ?_
  refine V_get C (ci := 0) ((mput_ne n9).trans ht) rfl wu_X0 0 (by decide) fl_X0_7 rfl (by rfl) dX0_putBack_17 ?_
  refine V_get C (ci := 2) ((mput_ne n29).trans h2) rfl wu_X2 4 (by decide) fl_X0_26 rfl (by rfl) dX0_putBack_20 ?_
  refine V_aload_n C dX0_putBack_23 (by rfl) ?_
  refine V_get C (ci := 0) ((mput_ne n9).trans ht) rfl wu_X0 1 (by decide) fl_X0_13 rfl (by rfl) dX0_putBack_24 ?_
  refine V_aload_n C dX0_putBack_27 (by rfl) ?_
  refine V_get C (ci := 0) ((mput_ne n9).trans ht) rfl wu_X0 3 (by decide) fl_X0_29 rfl (by rfl) dX0_putBack_28 ?_
  refine N_iast C ((mput_ne na.symm).trans hw) hj (by decide) dX0_putBack_31 ?_
  exact V_vret C hr (by decide) (by decide) dX0_putBack_32 ⟨rfl, rfl⟩
