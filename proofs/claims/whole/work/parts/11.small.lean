/-! existing, referredTo, refersToLocal, checkValue, checkIndex, isNewerThan -/
set_option maxHeartbeats 4000000 in
set_option maxRecDepth 100000 in
theorem c_existing (l : Launch) (hl : l.stackTraces = false) (base : Nat) (D : va_G) (ct : Nat → ClassId) (sa : Nat → Nat) {A : Nat → Nat → Nat} {G ob : Nat → Nat} {σ : Sg} {M : Mem} {x B : Nat} (hC : RepC ct A G ob σ M x) (hI : Inv B σ) (hB : B ≤ 600) (k : Int32) :
    CT l yX3_existing (.code yX3_existing cX3_existing 3 (some (.object "SaveRestore$Thing")) :: WL) (rmK 6 1 6) base D ct sa M [.ref x, .int k] (fun v M' => isO σ k = true ∧ v = some (.ref (A 8 k.toNatClampNeg)) ∧ M' = M) (fun E M' => isO σ k = false ∧ E = "java/util/NoSuchElementException" ∧ M' = M) := by
  refine CT.of hl (by decide) (Nat.le_of_ble_eq_true rfl) ?_
  intro p e s m below meth c C hr hx
  obtain ⟨hx0, hG, hO, hA, hT, hS, hR⟩ := id hC
  cases hk : isO σ k with
  | false =>
    have hf : fnd A σ k = none := by simp [fnd, hk]
    refine V_aload_n C dX3_existing_0 (by rfl) ?_
    refine V_iload_n C dX3_existing_1 (by rfl) ?_
    refine V_callV C hx (As := [.int k]) (c_find l hl base D ct sa hC hI hB k) w_X3_149 hx0 rfl rfl (by decide) (by decide) ⟨by decide, by decide⟩ dX3_existing_2 (by decide) (by decide) (fun _ _ h => h.elim) (fun v M1 hv => ?_)
    obtain ⟨rfl, rfl⟩ := hv
    refine VV.eqv (st' := [.null]) rfl (by rw [hf]; rfl) ?_
    refine V_astore_nN C dX3_existing_5 (by decide) ?_
    refine V_aload_nN C dX3_existing_6 (by rfl) ?_
    refine V_ifnonnullN C dX3_existing_7 ?_
    exact V_throwN C hx rfl (List.mem_of_getElem? (i := 1) rfl) dX3_existing_10 dX3_existing_13 dX3_existing_14 dX3_existing_16 dX3_existing_19 (by decide) (by decide) (by decide) (by decide) (by decide) (by decide) ⟨rfl, rfl, rfl⟩
  | true =>
    have hf : fnd A σ k = some (A 8 k.toNatClampNeg) := by simp [fnd, hk]
    refine V_aload_n C dX3_existing_0 (by rfl) ?_
    refine V_iload_n C dX3_existing_1 (by rfl) ?_
    refine V_callV C hx (As := [.int k]) (c_find l hl base D ct sa hC hI hB k) w_X3_149 hx0 rfl rfl (by decide) (by decide) ⟨by decide, by decide⟩ dX3_existing_2 (by decide) (by decide) (fun _ _ h => h.elim) (fun v M1 hv => ?_)
    obtain ⟨rfl, rfl⟩ := hv
    refine VV.eqv (st' := [.ref (A 8 k.toNatClampNeg)]) rfl (by rw [hf]; rfl) ?_
    refine V_astore_n C dX3_existing_5 (by decide) ?_
    refine V_aload_n C dX3_existing_6 (by rfl) ?_
    refine V_ifnonnull C 20 dX3_existing_7 (by decide) ?_
    refine V_aload_n C dX3_existing_20 (by rfl) ?_
    exact V_aret C hr (Or.inr ⟨_, rfl⟩) (by decide) (by decide) dX3_existing_21 ⟨rfl, rfl, rfl⟩
/-- what referredTo answers -/
def rft (A : Nat → Nat → Nat) (σ : Sg) (v : Int32) : Option Nat := if 0 ≤ v then none else fnd A σ (-1 - v)
set_option maxHeartbeats 4000000 in
set_option maxRecDepth 100000 in
theorem c_referredTo (l : Launch) (hl : l.stackTraces = false) (base : Nat) (D : va_G) (ct : Nat → ClassId) (sa : Nat → Nat) {A : Nat → Nat → Nat} {G ob : Nat → Nat} {σ : Sg} {M : Mem} {x B : Nat} (hC : RepC ct A G ob σ M x) (hI : Inv B σ) (hB : B ≤ 600) (v : Int32) :
    CT l yX3_referredTo (.code yX3_referredTo cX3_referredTo 2 (some (.object "SaveRestore$Thing")) :: WL) (rmK 2 0 0) base D ct sa M [.ref x, .int v] (fun v9 M' => v9 = some (va_rf (rft A σ v)) ∧ M' = M) noX := by
  refine CT.of hl (by decide) (Nat.le_of_ble_eq_true rfl) ?_
  intro p e s m below meth c C hr hx
  obtain ⟨hx0, hG, hO, hA, hT, hS, hR⟩ := id hC
  refine V_iload_n C dX3_referredTo_0 (by rfl) ?_
  refine V_if_ge C 14 dX3_referredTo_1 (by decide) (fun h1 => ?_) (fun h1 => ?_)
  · refine V_null C dX3_referredTo_14 ?_
    exact V_aret C hr (Or.inl rfl) (by decide) (by decide) dX3_referredTo_15 ⟨by unfold rft; rw [if_pos h1]; rfl, rfl⟩
  · refine V_aload_n C dX3_referredTo_4 (by rfl) ?_
    refine V_iconst C (-1) dX3_referredTo_5 (by decide) ?_
    refine V_iload_n C dX3_referredTo_6 (by rfl) ?_
    refine V_isub C dX3_referredTo_7 ?_
    refine V_callV C hx (As := [.int (-1 - v)]) (c_find l hl base D ct sa hC hI hB (-1 - v)) w_X3_149 hx0 rfl rfl (by decide) (by decide) ⟨by decide, by decide⟩ dX3_referredTo_8 (by decide) (by decide) (fun _ _ h => h.elim) (fun v9 M1 hv => ?_)
    obtain ⟨rfl, rfl⟩ := hv
    refine VV.eqv (st' := [va_rf (fnd A σ (-1 - v))]) rfl rfl ?_
    refine V_goto C 15 dX3_referredTo_11 (by decide) ?_
    exact V_aret C hr (va_rf_or _) (by decide) (by decide) dX3_referredTo_15 ⟨by unfold rft; rw [if_neg h1], rfl⟩
set_option maxHeartbeats 4000000 in
set_option maxRecDepth 100000 in
theorem c_checkValue (l : Launch) (hl : l.stackTraces = false) (base : Nat) (D : va_G) (ct : Nat → ClassId) (sa : Nat → Nat) {A : Nat → Nat → Nat} {G ob : Nat → Nat} {σ : Sg} {M : Mem} {x B : Nat} (hC : RepC ct A G ob σ M x) (hI : Inv B σ) (hB : B ≤ 600) (v : Int32) :
    CT l yX3_checkValue (.code yX3_checkValue cX3_checkValue 2 none :: WL) (rmK 6 1 6) base D ct sa M [.ref x, .int v] (fun v9 M' => isV σ v = true ∧ v9 = none ∧ M' = M) (fun E M' => isV σ v = false ∧ E = "java/util/NoSuchElementException" ∧ M' = M) := by
  refine CT.of hl (by decide) (Nat.le_of_ble_eq_true rfl) ?_
  intro p e s m below meth c C hr hx
  obtain ⟨hx0, hG, hO, hA, hT, hS, hR⟩ := id hC
  refine V_iload_n C dX3_checkValue_0 (by rfl) ?_
  refine V_if_ge C 22 dX3_checkValue_1 (by decide) (fun h1 => ?_) (fun h1 => ?_)
  · exact V_vret C hr (by decide) (by decide) dX3_checkValue_22 ⟨by simp [isV, h1], rfl, rfl⟩
  · refine V_aload_n C dX3_checkValue_4 (by rfl) ?_
    refine V_iload_n C dX3_checkValue_5 (by rfl) ?_
    refine V_callV C hx (As := [.int v]) (c_referredTo l hl base D ct sa hC hI hB v) w_X3_160 hx0 rfl rfl (by decide) (by decide) ⟨by decide, by decide⟩ dX3_checkValue_6 (by decide) (by decide) (fun _ _ h => h.elim) (fun v9 M1 hv => ?_)
    obtain ⟨rfl, rfl⟩ := hv
    have e1 : rft A σ v = fnd A σ (-1 - v) := by unfold rft; rw [if_neg h1]
    cases hk : isO σ (-1 - v) with
    | false =>
      have hf : fnd A σ (-1 - v) = none := by simp [fnd, hk]
      refine VV.eqv (st' := [.null]) rfl (by rw [e1, hf]; rfl) ?_
      refine V_ifnonnullN C dX3_checkValue_9 ?_
      exact V_throwN C hx rfl (List.mem_of_getElem? (i := 2) rfl) dX3_checkValue_12 dX3_checkValue_15 dX3_checkValue_16 dX3_checkValue_18 dX3_checkValue_21 (by decide) (by decide) (by decide) (by decide) (by decide) (by decide) ⟨by simp [isV, h1, hk], rfl, rfl⟩
    | true =>
      have hf : fnd A σ (-1 - v) = some (A 8 (rfOf v)) := by simp [fnd, hk, rfOf]
      refine VV.eqv (st' := [.ref (A 8 (rfOf v))]) rfl (by rw [e1, hf]; rfl) ?_
      refine V_ifnonnull C 22 dX3_checkValue_9 (by decide) ?_
      exact V_vret C hr (by decide) (by decide) dX3_checkValue_22 ⟨by simp [isV, hk], rfl, rfl⟩
set_option maxHeartbeats 4000000 in
set_option maxRecDepth 100000 in
theorem c_checkIndex (l : Launch) (hl : l.stackTraces = false) (base : Nat) (D : va_G) (ct : Nat → ClassId) (sa : Nat → Nat) (M : Mem) (i : Int32) (N : Nat) (hN : N < 2 ^ 31) :
    CT l yX3_checkIndex (.code yX3_checkIndex cX3_checkIndex 2 none :: WL) (rmK 6 1 6) base D ct sa M [.int i, .int (nI N)] (fun v9 M' => isN N i = true ∧ v9 = none ∧ M' = M) (fun E M' => isN N i = false ∧ E = "java/lang/IndexOutOfBoundsException" ∧ M' = M) := by
  refine CT.of hl (by decide) (Nat.le_of_ble_eq_true rfl) ?_
  intro p e s m below meth c C hr hx
  refine V_iload_n C dX3_checkIndex_0 (by rfl) ?_
  refine V_if_lt C 9 dX3_checkIndex_1 (by decide) (fun h1 => ?_) (fun h1 => ?_)
  · exact V_throw C hx rfl (E := "java/lang/IndexOutOfBoundsException") (by decide +kernel) cl_X3_135 ini_EB (List.mem_of_getElem? (i := 3) rfl) ea_B eg_B dX3_checkIndex_9 dX3_checkIndex_12 dX3_checkIndex_13 dX3_checkIndex_15 dX3_checkIndex_18 (by decide) (by decide) (by decide) (by decide) (by decide) (by decide) ⟨by simp only [isN, decide_eq_false_iff_not]; exact fun h => absurd h1 (Int32.not_lt.mpr h.1), rfl, rfl⟩
  · refine V_iload_n C dX3_checkIndex_4 (by rfl) ?_
    refine V_iload_n C dX3_checkIndex_5 (by rfl) ?_
    refine V_icmp_lt C 19 dX3_checkIndex_6 (by decide) (fun h6 => ?_) (fun h6 => ?_)
    · exact V_vret C hr (by decide) (by decide) dX3_checkIndex_19 ⟨by obtain ⟨j, hj, rfl⟩ := nI_of h1; simp only [isN, decide_eq_true_eq]; rw [nI_clamp hj]; exact ⟨nI_pos' hj, (nI_ltI hj hN).mp h6⟩, rfl, rfl⟩
    · exact V_throw C hx rfl (E := "java/lang/IndexOutOfBoundsException") (by decide +kernel) cl_X3_135 ini_EB (List.mem_of_getElem? (i := 3) rfl) ea_B eg_B dX3_checkIndex_9 dX3_checkIndex_12 dX3_checkIndex_13 dX3_checkIndex_15 dX3_checkIndex_18 (by decide) (by decide) (by decide) (by decide) (by decide) (by decide) ⟨by simp only [isN, decide_eq_false_iff_not]; rintro ⟨g1, g2⟩; obtain ⟨j, hj, rfl⟩ := nI_of h1; rw [nI_clamp hj] at g2; exact h6 ((nI_ltI hj hN).mpr g2), rfl, rfl⟩
/-- whether a value refers to a local object -/
def lcl (σ : Sg) (v : Int32) : Bool := decide (v < 0 ∧ gGlob σ (rfOf v) = 0)
theorem lcl_1 {σ : Sg} {v : Int32} (h : ¬ 0 ≤ v) (hg : gGlob σ (rfOf v) = 0) : lcl σ v = true := by simp only [lcl, decide_eq_true_eq]; exact ⟨Int32.not_le.mp h, hg⟩
theorem lcl_0 {σ : Sg} {v : Int32} (h : ¬ 0 ≤ v) (hg : gGlob σ (rfOf v) = 1) : lcl σ v = false := by simp only [lcl, decide_eq_false_iff_not]; rintro ⟨_, h2⟩; omega
theorem lcl_p {σ : Sg} {v : Int32} (h : 0 ≤ v) : lcl σ v = false := by simp only [lcl, decide_eq_false_iff_not]; rintro ⟨h2, _⟩; exact absurd h2 (Int32.not_lt.mpr h)
def b2i (b : Bool) : Int32 := if b then 1 else 0
set_option maxHeartbeats 4000000 in
set_option maxRecDepth 100000 in
theorem c_refersToLocal (l : Launch) (hl : l.stackTraces = false) (base : Nat) (D : va_G) (ct : Nat → ClassId) (sa : Nat → Nat) {A : Nat → Nat → Nat} {G ob : Nat → Nat} {σ : Sg} {M : Mem} {x B : Nat} (hC : RepC ct A G ob σ M x) (hI : Inv B σ) (hB : B ≤ 600) (v : Int32) (hv : isV σ v = true) :
    CT l yX3_refersToLocal (.code yX3_refersToLocal cX3_refersToLocal 3 (some .boolean) :: WL) (rmK 3 0 0) base D ct sa M [.ref x, .int v] (fun v9 M' => v9 = some (.int (b2i (lcl σ v))) ∧ M' = M) noX := by
  refine CT.of hl (by decide) (Nat.le_of_ble_eq_true rfl) ?_
  intro p e s m below meth c C hr hx
  obtain ⟨hx0, hG, hO, hA, hT, hS, hR⟩ := id hC
  by_cases hv0 : 0 ≤ v
  · have hf : rft A σ v = none := by unfold rft; rw [if_pos hv0]
    refine V_aload_n C dX3_refersToLocal_0 (by rfl) ?_
    refine V_iload_n C dX3_refersToLocal_1 (by rfl) ?_
    refine V_callV C hx (As := [.int v]) (c_referredTo l hl base D ct sa hC hI hB v) w_X3_160 hx0 rfl rfl (by decide) (by decide) ⟨by decide, by decide⟩ dX3_refersToLocal_2 (by decide) (by decide) (fun _ _ h => h.elim) (fun v9 M1 hv => ?_)
    obtain ⟨rfl, rfl⟩ := hv
    refine VV.eqv (st' := [.null]) rfl (by rw [hf]; rfl) ?_
    refine V_astore_nN C dX3_refersToLocal_5 (by decide) ?_
    refine V_aload_nN C dX3_refersToLocal_6 (by rfl) ?_
    refine V_ifnullN C 21 dX3_refersToLocal_7 (by decide) ?_
    refine V_iconst C (0) dX3_refersToLocal_21 (by decide) ?_
    exact V_zret C hr (by rfl) (by decide) (by decide) dX3_refersToLocal_22 ⟨by rw [lcl_p hv0]; rfl, rfl⟩
  · have hk : isO σ (-1 - v) = true := by simpa [isV, hv0] using hv
    have hf : rft A σ v = some (A 8 (rfOf v)) := by unfold rft; rw [if_neg hv0]; simp [fnd, hk, rfOf]
    obtain ⟨o9, e1, h1, ht, e2⟩ := isO_of hk (Nat.le_trans hI.1.1 hB)
    have e3 : rfOf v = o9 := e2
    rw [← e3] at ht
    have hg : gGlob σ (rfOf v) = 0 ∨ gGlob σ (rfOf v) = 1 := by have := hI.2.1.2.1 (rfOf v); omega
    refine V_aload_n C dX3_refersToLocal_0 (by rfl) ?_
    refine V_iload_n C dX3_refersToLocal_1 (by rfl) ?_
    refine V_callV C hx (As := [.int v]) (c_referredTo l hl base D ct sa hC hI hB v) w_X3_160 hx0 rfl rfl (by decide) (by decide) ⟨by decide, by decide⟩ dX3_refersToLocal_2 (by decide) (by decide) (fun _ _ h => h.elim) (fun v9 M1 hv => ?_)
    obtain ⟨rfl, rfl⟩ := hv
    refine VV.eqv (st' := [.ref (A 8 (rfOf v))]) rfl (by rw [hf]; rfl) ?_
    refine V_astore_n C dX3_refersToLocal_5 (by decide) ?_
    refine V_aload_n C dX3_refersToLocal_6 (by rfl) ?_
    refine V_ifnull C dX3_refersToLocal_7 ?_
    refine V_aload_n C dX3_refersToLocal_10 (by rfl) ?_
    refine V_get C (ci := 2) (hT _ ht).1 rfl wu_X2 1 (by decide) fl_X3_75 rfl (by rfl) dX3_refersToLocal_11 ?_
    refine V_if_ne C 21 dX3_refersToLocal_14 (by decide) (fun h14 => ?_) (fun h14 => ?_)
    · refine V_iconst C (0) dX3_refersToLocal_21 (by decide) ?_
      exact V_zret C hr (by rfl) (by decide) (by decide) dX3_refersToLocal_22 ⟨by rw [lcl_0 hv0 (by rcases hg with h | h; rw [h] at h14; exact absurd rfl h14; exact h)]; rfl, rfl⟩
    · refine V_iconst C (1) dX3_refersToLocal_17 (by decide) ?_
      refine V_goto C 22 dX3_refersToLocal_18 (by decide) ?_
      exact V_zret C hr (by rfl) (by decide) (by decide) dX3_refersToLocal_22 ⟨by rw [lcl_1 hv0 (by rcases hg with h | h; exact h; rw [h] at h14; exact absurd h14 (by decide))]; rfl, rfl⟩
set_option maxHeartbeats 4000000 in
set_option maxRecDepth 100000 in
theorem c_isNewerThan (l : Launch) (hl : l.stackTraces = false) (base : Nat) (D : va_G) (ct : Nat → ClassId) (sa : Nat → Nat) {M : Mem} {t q o f : Nat} {z1 z2 z3 z4 y1 y3 y4 y5 y6 : Value} (ho : o < 2 ^ 31) (hf : f < 2 ^ 31) (ht : M t = some (.inr (2, [.int (nI o), z1, z2, z3, z4]))) (hs : M q = some (.inr (1, [y1, .int (nI f), y3, y4, y5, y6]))) :
    CT l yX2_isNewerThan (.code yX2_isNewerThan cX2_isNewerThan 2 (some .boolean) :: WL) (rmK 1 0 0) base D ct sa M [.ref t, .ref q] (fun v9 M' => v9 = some (.int (b2i (decide (f ≤ o)))) ∧ M' = M) noX := by
  refine CT.of hl (by decide) (Nat.le_of_ble_eq_true rfl) ?_
  intro p e s m below meth c C hr hx
  refine V_aload_n C dX2_isNewerThan_0 (by rfl) ?_
  refine V_get C (ci := 2) ht rfl wu_X2 0 (by decide) fl_X2_21 rfl (by rfl) dX2_isNewerThan_1 ?_
  refine V_aload_n C dX2_isNewerThan_4 (by rfl) ?_
  refine V_get C (ci := 1) hs rfl wu_X1 1 (by decide) fl_X2_29 rfl (by rfl) dX2_isNewerThan_5 ?_
  refine V_icmp_lt C 15 dX2_isNewerThan_8 (by decide) (fun h8 => ?_) (fun h8 => ?_)
  · refine V_iconst C (0) dX2_isNewerThan_15 (by decide) ?_
    exact V_zret C hr (by rfl) (by decide) (by decide) dX2_isNewerThan_16 ⟨by rw [show decide (f ≤ o) = false from decide_eq_false (by have := (nI_ltI ho hf).mp h8; omega)]; rfl, rfl⟩
  · refine V_iconst C (1) dX2_isNewerThan_11 (by decide) ?_
    refine V_goto C 16 dX2_isNewerThan_12 (by decide) ?_
    exact V_zret C hr (by rfl) (by decide) (by decide) dX2_isNewerThan_16 ⟨by rw [show decide (f ≤ o) = true from decide_eq_true (by rcases Nat.lt_or_ge o f with h | h; exact absurd ((nI_ltI ho hf).mpr h) h8; exact h)]; rfl, rfl⟩
