/-! what a call of the class leaves; the reads: get, stateOf, deepest, used, old, pushedSinceLatestSave -/
/-- nothing else was touched -/
def FrC (G G' : Nat → Nat) (M M' : Mem) : Prop := (∀ a, G' a ≠ 0 → G a ≠ 0 ∨ M a = none) ∧ (∀ a, G a = 0 → M a ≠ none → M' a = M a)
theorem FrC.rfl {G : Nat → Nat} {M : Mem} : FrC G G M M := ⟨fun _ h => Or.inl h, fun _ _ _ => Eq.refl _⟩
/-- the class holds σ' -/
def HoldC (ct : Nat → ClassId) (G : Nat → Nat) (M : Mem) (σ' : Sg) (M' : Mem) (x : Nat) : Prop := ∃ A' G' ob', RepC ct A' G' ob' σ' M' x ∧ FrC G G' M M'
def PostC (ct : Nat → ClassId) (G : Nat → Nat) (M : Mem) (x : Nat) (r : Nat × Int32 × Sg) : Option Value → Mem → Prop := fun v M' => r.1 = 0 ∧ v = some (.int r.2.1) ∧ HoldC ct G M r.2.2 M' x
def PxC (nm : Nat → String) (M : Mem) (r : Nat × Int32 × Sg) : String → Mem → Prop := fun E M' => 0 < r.1 ∧ E = nm r.1 ∧ M' = M
def nmN : Nat → String := fun c => if c = 1 then "java/util/NoSuchElementException" else if c = 2 then "java/lang/IndexOutOfBoundsException" else "java/lang/IllegalStateException"
def nmB : Nat → String := fun _ => "java/lang/IndexOutOfBoundsException"
def nmU : Nat → String := fun _ => "java/lang/UnsupportedOperationException"
theorem isN_of {n : Nat} {i : Int32} (h : isN n i = true) (hn : n < 2 ^ 31) : ∃ j : Nat, j < n ∧ i = nI j ∧ i.toNatClampNeg = j := by
  simp only [isN, decide_eq_true_eq] at h
  obtain ⟨h1, h2⟩ := h
  obtain ⟨j, h4, rfl⟩ := nI_of (Int32.not_lt.mpr h1)
  rw [nI_clamp h4] at h2 ⊢
  exact ⟨j, h2, rfl, rfl⟩
set_option maxHeartbeats 4000000 in
set_option maxRecDepth 100000 in
theorem c_get (l : Launch) (hl : l.stackTraces = false) (base : Nat) (D : va_G) (ct : Nat → ClassId) (sa : Nat → Nat) {A : Nat → Nat → Nat} {G ob : Nat → Nat} {σ : Sg} {M : Mem} {x B : Nat} (hC : RepC ct A G ob σ M x) (hI : Inv B σ) (hB : B ≤ 600) (k i : Int32) :
    CT l yX3_get (.code yX3_get cX3_get 4 (some .int) :: WL) (rmK 7 2 12) base D ct sa M [.ref x, .int k, .int i] (PostC ct G M x (oGet σ k i)) (PxC nmN M (oGet σ k i)) := by
  refine CT.of hl (by decide) (Nat.le_of_ble_eq_true rfl) ?_
  intro p e s m below meth c C hr hx
  obtain ⟨hx0, hG, hO, hA, hT, hS, hR⟩ := id hC
  refine V_aload_n C dX3_get_0 (by rfl) ?_
  refine V_iload_n C dX3_get_1 (by rfl) ?_
  refine V_callV C hx (As := [.int k]) (c_existing l hl base D ct sa hC hI hB k) w_X3_63 hx0 rfl rfl (by decide) (by decide) ⟨by decide, by decide⟩ dX3_get_2 (by decide) (by decide) (fun E M1 h => by obtain ⟨h1, rfl, rfl⟩ := h; rw [show oGet σ k i = (1, 0, σ) by simp [oGet, h1]]; exact ⟨Nat.one_pos, rfl, rfl⟩) (fun v M1 hv => ?_)
  obtain ⟨hk, rfl, rfl⟩ := hv
  obtain ⟨o, rfl, ho, ht, eo⟩ := isO_of hk (Nat.le_trans hI.1.1 hB)
  rw [eo]
  refine V_astore_n C dX3_get_5 (by decide) ?_
  refine V_iload_n C dX3_get_6 (by rfl) ?_
  refine V_bipush C (nI 8) dX3_get_7 (by decide) ?_
  refine V_callS C hx (As := [.int i, .int (nI 8)]) (c_checkIndex l hl base D ct sa M1 i 8 (by decide)) w_X3_71 rfl (by decide) (by decide) ⟨by decide, by decide⟩ dX3_get_9 (by decide) (by decide) (fun E M2 h => by obtain ⟨h1, rfl, rfl⟩ := h; rw [show oGet σ (nI o) i = (2, 0, σ) by simp [oGet, hk, h1]]; exact ⟨Nat.zero_lt_succ _, rfl, rfl⟩) (fun v M2 hv => ?_)
  obtain ⟨hi, rfl, rfl⟩ := hv
  obtain ⟨j, hj, rfl, ej⟩ := isN_of hi (by decide)
  obtain ⟨ht0, ⟨f, hf, hf2⟩, ht2, ht3⟩ := hT o ht
  refine V_aload_n C dX3_get_12 (by rfl) ?_
  refine V_get C (ci := 2) ht0 rfl wu_X2 2 (by decide) fl_X3_92 rfl (by rfl) dX3_get_13 ?_
  refine V_iload_n C dX3_get_16 (by rfl) ?_
  refine N_iald C hf hj (by decide) dX3_get_17 ?_
  exact V_iret C hr (by decide) (by decide) dX3_get_18 (by rw [show oGet σ (nI o) (nI j) = (0, gCe σ (8 * o + j), σ) by simp only [oGet, hk, hi, eo, ej]; rfl]; exact ⟨rfl, by rw [hf2 j hj], A, G, ob, hC, FrC.rfl⟩)
set_option maxHeartbeats 4000000 in
set_option maxRecDepth 100000 in
theorem c_stateOf (l : Launch) (hl : l.stackTraces = false) (base : Nat) (D : va_G) (ct : Nat → ClassId) (sa : Nat → Nat) {A : Nat → Nat → Nat} {G ob : Nat → Nat} {σ : Sg} {M : Mem} {x B : Nat} (hC : RepC ct A G ob σ M x) (hI : Inv B σ) (hB : B ≤ 600) (i : Int32) :
    CT l yX3_stateOf (.code yX3_stateOf cX3_stateOf 2 (some .int) :: WL) (rmK 7 2 12) base D ct sa M [.ref x, .int i] (PostC ct G M x (oStateOf σ i)) (PxC nmB M (oStateOf σ i)) := by
  refine CT.of hl (by decide) (Nat.le_of_ble_eq_true rfl) ?_
  intro p e s m below meth c C hr hx
  obtain ⟨hx0, hG, hO, hA, hT, hS, hR⟩ := id hC
  refine V_iload_n C dX3_stateOf_0 (by rfl) ?_
  refine V_bipush C (nI 10) dX3_stateOf_1 (by decide) ?_
  refine V_callS C hx (As := [.int i, .int (nI 10)]) (c_checkIndex l hl base D ct sa M i 10 (by decide)) w_X3_71 rfl (by decide) (by decide) ⟨by decide, by decide⟩ dX3_stateOf_3 (by decide) (by decide) (fun E M2 h => by obtain ⟨h1, rfl, rfl⟩ := h; rw [show oStateOf σ i = (1, 0, σ) by simp [oStateOf, h1]]; exact ⟨Nat.zero_lt_succ _, rfl, rfl⟩) (fun v M2 hv => ?_)
  obtain ⟨hi, rfl, rfl⟩ := hv
  obtain ⟨j, hj, rfl, ej⟩ := isN_of hi (by decide)
  obtain ⟨f, hf, hf2⟩ := hA.2.2.1
  refine V_aload_n C dX3_stateOf_6 (by rfl) ?_
  refine V_get C (ci := 3) hx0 rfl wu_X3 7 (by decide) fl_X3_37 rfl (by rfl) dX3_stateOf_7 ?_
  refine V_iload_n C dX3_stateOf_10 (by rfl) ?_
  refine N_iald C hf hj (by decide) dX3_stateOf_11 ?_
  exact V_iret C hr (by decide) (by decide) dX3_stateOf_12 (by rw [show oStateOf σ (nI j) = (0, gPa σ j, σ) by simp only [oStateOf, hi, ej]; rfl]; exact ⟨rfl, by rw [hf2 j hj], A, G, ob, hC, FrC.rfl⟩)
set_option maxHeartbeats 4000000 in
set_option maxRecDepth 100000 in
theorem c_deepest (l : Launch) (hl : l.stackTraces = false) (base : Nat) (D : va_G) (ct : Nat → ClassId) (sa : Nat → Nat) {A : Nat → Nat → Nat} {G ob : Nat → Nat} {σ : Sg} {M : Mem} {x B : Nat} (hC : RepC ct A G ob σ M x) (hI : Inv B σ) (hB : B ≤ 600) :
    CT l yX3_deepest (.code yX3_deepest cX3_deepest 1 (some .int) :: WL) (rmK 7 2 12) base D ct sa M [.ref x] (PostC ct G M x (0, nI (gDeep σ), σ)) noX := by
  refine CT.of hl (by decide) (Nat.le_of_ble_eq_true rfl) ?_
  intro p e s m below meth c C hr hx
  obtain ⟨hx0, hG, hO, hA, hT, hS, hR⟩ := id hC
  refine V_aload_n C dX3_deepest_0 (by rfl) ?_
  refine V_get C (ci := 3) hx0 rfl wu_X3 6 (by decide) fl_X3_34 rfl (by rfl) dX3_deepest_1 ?_
  exact V_iret C hr (by decide) (by decide) dX3_deepest_4 ⟨rfl, rfl, A, G, ob, hC, FrC.rfl⟩
set_option maxHeartbeats 4000000 in
set_option maxRecDepth 100000 in
theorem c_pushedSince (l : Launch) (hl : l.stackTraces = false) (base : Nat) (D : va_G) (ct : Nat → ClassId) (sa : Nat → Nat) {A : Nat → Nat → Nat} {σ : Sg} {M : Mem} {x : Nat} {sf9 : Nat → Option Nat} {y1 y2 y4 y5 y6 : Value} (hx0 : M x = some (xE A σ)) (h16 : gSv σ ≤ 16) (h30 : gSt σ ≤ 30) (hsf : M (A 2 0) = some (.inl (ct 3, 16, .inr (.inr (.inr (.inr sf9)))))) (hsf2 : ∀ k, k < 16 → sf9 k = some (A 6 k)) (hs9 : 0 < gSv σ → M (A 6 (gSv σ - 1)) = some (.inr (1, [y1, y2, .int (nI (gSb σ (gSv σ - 1))), y4, y5, y6]))) (hle9 : 0 < gSv σ → gSb σ (gSv σ - 1) ≤ gSt σ) :
    CT l yX3_pushedSinceLatestSave (.code yX3_pushedSinceLatestSave cX3_pushedSinceLatestSave 1 (some .int) :: WL) (rmK 1 0 0) base D ct sa M [.ref x] (fun v M' => v = some (.int (nI (ownS σ))) ∧ M' = M) noX := by
  refine CT.of hl (by decide) (Nat.le_of_ble_eq_true rfl) ?_
  intro p e s m below meth c C hr hx
  rcases Nat.eq_zero_or_pos (gSv σ) with h0 | h0
  · refine V_aload_n C dX3_pushedSinceLatestSave_0 (by rfl) ?_
    refine V_get C (ci := 3) hx0 rfl wu_X3 4 (by decide) fl_X3_28 rfl (by rfl) dX3_pushedSinceLatestSave_1 ?_
    refine V_if_le C 29 dX3_pushedSinceLatestSave_4 (by decide) (fun h_4 => ?_) (fun h_4 => absurd h_4 (fun h => h (by rw [h0]; decide)))
    refine V_aload_n C dX3_pushedSinceLatestSave_29 (by rfl) ?_
    refine V_get C (ci := 3) hx0 rfl wu_X3 9 (by decide) fl_X3_46 rfl (by rfl) dX3_pushedSinceLatestSave_30 ?_
    exact V_iret C hr (by decide) (by decide) dX3_pushedSinceLatestSave_33 ⟨by rw [ownS, if_pos h0], rfl⟩
  · have hs := hs9 h0
    have hle := hle9 h0
    refine V_aload_n C dX3_pushedSinceLatestSave_0 (by rfl) ?_
    refine V_get C (ci := 3) hx0 rfl wu_X3 4 (by decide) fl_X3_28 rfl (by rfl) dX3_pushedSinceLatestSave_1 ?_
    refine V_if_le C 29 dX3_pushedSinceLatestSave_4 (by decide) (fun h_4 => absurd h_4 (nI_nle (by omega) (by omega))) (fun h_4 => ?_)
    refine V_aload_n C dX3_pushedSinceLatestSave_7 (by rfl) ?_
    refine V_get C (ci := 3) hx0 rfl wu_X3 9 (by decide) fl_X3_46 rfl (by rfl) dX3_pushedSinceLatestSave_8 ?_
    refine V_aload_n C dX3_pushedSinceLatestSave_11 (by rfl) ?_
    refine V_get C (ci := 3) hx0 rfl wu_X3 3 (by decide) fl_X3_24 rfl (by rfl) dX3_pushedSinceLatestSave_12 ?_
    refine V_aload_n C dX3_pushedSinceLatestSave_15 (by rfl) ?_
    refine V_get C (ci := 3) hx0 rfl wu_X3 4 (by decide) fl_X3_28 rfl (by rfl) dX3_pushedSinceLatestSave_16 ?_
    refine V_iconst C (1) dX3_pushedSinceLatestSave_19 (by decide) ?_
    refine V_isub C dX3_pushedSinceLatestSave_20 ?_
    refine V_top (pk_sub (b := 1) (by omega)) ?_
    refine N_aldS C hsf (by omega) (by decide) (hsf2 _ (by omega)) dX3_pushedSinceLatestSave_21 ?_
    refine V_get C (ci := 1) hs rfl wu_X1 2 (by decide) fl_X3_101 rfl (by rfl) dX3_pushedSinceLatestSave_22 ?_
    refine V_isub C dX3_pushedSinceLatestSave_25 ?_
    refine V_top (pk_sub hle) ?_
    refine V_goto C 33 dX3_pushedSinceLatestSave_26 (by decide) ?_
    exact V_iret C hr (by decide) (by decide) dX3_pushedSinceLatestSave_33 ⟨by rw [ownS, if_neg (by omega)], rfl⟩
set_option maxHeartbeats 4000000 in
set_option maxRecDepth 100000 in
theorem c_used (l : Launch) (hl : l.stackTraces = false) (base : Nat) (D : va_G) (ct : Nat → ClassId) (sa : Nat → Nat) {A : Nat → Nat → Nat} {G ob : Nat → Nat} {σ : Sg} {M : Mem} {x B : Nat} (hC : RepC ct A G ob σ M x) (hI : Inv B σ) (hB : B ≤ 600) :
    CT l yX3_used (.code yX3_used cX3_used 3 (some .int) :: WL) (rmK 7 2 12) base D ct sa M [.ref x] (PostC ct G M x (0, oUsed σ, σ)) noX := by
  refine CT.of hl (by decide) (Nat.le_of_ble_eq_true rfl) ?_
  intro p e s m below meth c C hr hx
  obtain ⟨hx0, hG, hO, hA, hT, hS, hR⟩ := id hC
  obtain ⟨sf9, hsf, hsf2⟩ := hA.2.1
  obtain ⟨⟨i1, i2, i3, i4, i5, i6, i7, i8⟩, iT, iS, ⟨r1, r2, r3, r4, r5, r6⟩, -⟩ := id hI
  have hmono : ∀ t, t < gSv σ → rbx σ t ≤ rbx σ (t + 1) := by
    intro t ht
    unfold rbx
    rw [if_pos ht]
    split
    · exact r2 t (t + 1) (by omega) (by assumption)
    · exact r1 t ht
  have hmono0 : ∀ t, t ≤ gSv σ → rbx σ 0 ≤ rbx σ t := by
    intro t
    induction t with
    | zero => intro _; exact Nat.le_refl _
    | succ t ih => intro h; exact Nat.le_trans (ih (by omega)) (hmono t (by omega))
  have hr0 : rbx σ 0 = 0 := by
    unfold rbx
    split
    · exact r6 (by assumption)
    · exact r5 (by omega)
  have loop : ∀ d t : Nat, gSv σ ≤ t + d → t ≤ gSv σ → VV p l e (rmK 7 2 12) s m ([.ref x] : List Value).toArray below meth c 3 base D (QB base D (PostC ct G M x (0, oUsed σ, σ)) noX below ([.ref x] : List Value).toArray s 2 12) M 0 0 4 [(0, .ref x), (1, .int (nI (rbx σ t - rbx σ 0))), (2, .int (nI t))] [] := by
    intro d
    induction d with
    | zero =>
      intro t h1 h2
      have htt : t = gSv σ := by omega
      refine V_iload_n C dX3_used_4 (by rfl) ?_
      refine V_aload_n C dX3_used_5 (by rfl) ?_
      refine V_get C (ci := 3) hx0 rfl wu_X3 4 (by decide) fl_X3_28 rfl (by rfl) dX3_used_6 ?_
      refine V_icmp_ge C 30 dX3_used_9 (by decide) (fun h_9 => ?_) (fun h_9 => absurd h_9 (fun h => h ((nI_leI (by omega) (by omega)).mpr (by omega))))
      refine V_bipush C (nI 12) dX3_used_30 (by decide) ?_
      refine V_aload_n C dX3_used_32 (by rfl) ?_
      refine V_get C (ci := 3) hx0 rfl wu_X3 1 (by decide) fl_X3_15 rfl (by rfl) dX3_used_33 ?_
      refine V_imul C dX3_used_36 ?_
      refine V_iconst C (nI 3) dX3_used_37 (by decide) ?_
      refine V_iload_n C dX3_used_38 (by rfl) ?_
      refine V_imul C dX3_used_39 ?_
      refine V_iadd C dX3_used_40 ?_
      refine V_bipush C (nI 6) dX3_used_41 (by decide) ?_
      refine V_aload_n C dX3_used_43 (by rfl) ?_
      refine V_get C (ci := 3) hx0 rfl wu_X3 4 (by decide) fl_X3_28 rfl (by rfl) dX3_used_44 ?_
      refine V_imul C dX3_used_47 ?_
      refine V_iadd C dX3_used_48 ?_
      refine V_bipush C (nI 10) dX3_used_49 (by decide) ?_
      refine V_aload_n C dX3_used_51 (by rfl) ?_
      refine V_get C (ci := 3) hx0 rfl wu_X3 9 (by decide) fl_X3_46 rfl (by rfl) dX3_used_52 ?_
      refine V_imul C dX3_used_55 ?_
      refine V_iadd C dX3_used_56 ?_
      refine V_top (y := oUsed σ) ?_ ?_
      · rw [pk_mul, pk_mul, pk_mul, pk_mul, nI_add, nI_add, nI_add]
        unfold oUsed
        rw [show rbx σ t - rbx σ 0 = gRows σ by rw [htt, hr0]; unfold rbx; rw [if_neg (Nat.lt_irrefl _)]; omega]
      exact V_iret C hr (by decide) (by decide) dX3_used_57 ⟨rfl, rfl, A, G, ob, hC, FrC.rfl⟩
    | succ d ih =>
      intro t h1 h2
      rcases Nat.lt_or_ge t (gSv σ) with ht | ht
      · refine V_iload_n C dX3_used_4 (by rfl) ?_
        refine V_aload_n C dX3_used_5 (by rfl) ?_
        refine V_get C (ci := 3) hx0 rfl wu_X3 4 (by decide) fl_X3_28 rfl (by rfl) dX3_used_6 ?_
        refine V_icmp_ge C 30 dX3_used_9 (by decide) (fun h_9 => absurd h_9 (fun h => absurd ((nI_leI (by omega) (by omega)).mp h) (by omega))) (fun h_9 => ?_)
        refine V_iload_n C dX3_used_12 (by rfl) ?_
        refine V_aload_n C dX3_used_13 (by rfl) ?_
        refine V_get C (ci := 3) hx0 rfl wu_X3 3 (by decide) fl_X3_24 rfl (by rfl) dX3_used_14 ?_
        refine V_iload_n C dX3_used_17 (by rfl) ?_
        refine N_aldS C hsf (by omega) (by decide) (hsf2 _ (by omega)) dX3_used_18 ?_
        refine V_get C (ci := 1) ((hS t (by omega)).1 ht).1 rfl wu_X1 5 (by decide) fl_X3_143 rfl (by rfl) dX3_used_19 ?_
        refine V_iadd C dX3_used_22 ?_
        refine V_top (y := nI (rbx σ (t + 1) - rbx σ 0)) (by rw [nI_add]; have := hmono t ht; have := hmono0 t (by omega); congr 1; omega) ?_
        refine V_istore_n C dX3_used_23 (by decide) ?_
        refine V_inc1 C dX3_used_24 (by rfl) (by decide) ?_
        refine V_goto C 4 dX3_used_27 (by decide) ?_
        refine VV.loc [(0, .ref x), (1, .int (nI (rbx σ (t + 1) - rbx σ 0))), (2, .int (nI (t + 1)))] ⟨rfl, rfl, (by rw [← nI_1]; rfl), trivial⟩ ?_
        exact ih (t + 1) (by omega) (by omega)
      · exact ih t (by omega) h2
  refine V_iconst C (0) dX3_used_0 (by decide) ?_
  refine V_istore_n C dX3_used_1 (by decide) ?_
  refine V_iconst C (0) dX3_used_2 (by decide) ?_
  refine V_istore_n C dX3_used_3 (by decide) ?_
  refine VV.loc [(0, .ref x), (1, .int (nI (rbx σ 0 - rbx σ 0))), (2, .int (nI 0))] ⟨rfl, (by rw [Nat.sub_self]; rfl), rfl, trivial⟩ ?_
  exact loop (gSv σ) 0 (by omega) (Nat.zero_le _)
set_option maxHeartbeats 4000000 in
set_option maxRecDepth 100000 in
theorem c_old_loop {l : Launch} (hl : l.stackTraces = false) {base : Nat} {D : va_G} {ct : Nat → ClassId} {sa : Nat → Nat} {A : Nat → Nat → Nat} {G ob : Nat → Nat} {σ : Sg} {M : Mem} {x B : Nat} (hC : RepC ct A G ob σ M x) (hI : Inv B σ) (hB : B ≤ 600) {o : Nat} (ho : o < gMade σ) (ht9 : gThere σ o = 1) (eo : (nI o).toNatClampNeg = o) (hk : isO σ (nI o) = true)
    {p : Program} {e : Env} {s : State} {m : MethodId} {below : List Frame} {meth : Method} {c : Code} (C : Cx p l s m ([.ref x, .int (nI o)] : List Value).toArray meth c cX3_old 5 yX3_old.cls base D ct sa) (hr : meth.sig.returnType = some .int) (hx : ∀ x ∈ c.exceptionTable.toList, False) :
    ∀ d t : Nat, gSv σ ≤ t + d → t ≤ gSv σ → VV p l e (rmK 7 2 12) s m ([.ref x, .int (nI o)] : List Value).toArray below meth c 5 base D (QB base D (PostC ct G M x (oOld σ (nI o))) (PxC nmN M (oOld σ (nI o))) below ([.ref x, .int (nI o)] : List Value).toArray s 2 12) M (0 + 1) (0 + 6) 11 [(0, .ref x), (1, .int (nI o)), (2, .ref (A 8 o)), (3, .int (nI (newS σ o t))), (4, .int (nI t))] [] := by
  obtain ⟨hx0, hG, hO, hA, hT, hS, hR⟩ := id hC
  obtain ⟨sf9, hsf, hsf2⟩ := hA.2.1
  obtain ⟨⟨i1, i2, i3, i4, i5, i6, i7, i8⟩, iT, iS, -⟩ := id hI
  have ht0 := (hT o ht9).1
  intro d
  induction d with
  | zero =>
    intro t h1 h2
    have htt : t = gSv σ := by omega
    refine V_iload C dX3_old_11 (by rfl) ?_
    refine V_aload_n C dX3_old_13 (by rfl) ?_
    refine V_get C (ci := 3) hx0 rfl wu_X3 4 (by decide) fl_X3_28 rfl (by rfl) dX3_old_14 ?_
    refine V_icmp_ge C 43 dX3_old_17 (by decide) (fun h_17 => ?_) (fun h_17 => absurd h_17 (fun h => h ((nI_leI (by omega) (by omega)).mpr (by omega))))
    refine V_iload_n C dX3_old_43 (by rfl) ?_
    exact V_iret C hr (by decide) (by decide) dX3_old_44 (by rw [show oOld σ (nI o) = (0, nI (newS σ o (gSv σ)), σ) by simp only [oOld, hk, eo]; rfl, ← htt]; exact ⟨rfl, rfl, A, G, ob, hC, FrC.rfl⟩)
  | succ d ih =>
    intro t h1 h2
    rcases Nat.lt_or_ge t (gSv σ) with ht2 | ht2
    · refine V_iload C dX3_old_11 (by rfl) ?_
      refine V_aload_n C dX3_old_13 (by rfl) ?_
      refine V_get C (ci := 3) hx0 rfl wu_X3 4 (by decide) fl_X3_28 rfl (by rfl) dX3_old_14 ?_
      refine V_icmp_ge C 43 dX3_old_17 (by decide) (fun h_17 => absurd h_17 (fun h => absurd ((nI_leI (by omega) (by omega)).mp h) (by omega))) (fun h_17 => ?_)
      refine V_aload_n C dX3_old_20 (by rfl) ?_
      refine V_aload_n C dX3_old_21 (by rfl) ?_
      refine V_get C (ci := 3) hx0 rfl wu_X3 3 (by decide) fl_X3_24 rfl (by rfl) dX3_old_22 ?_
      refine V_iload C dX3_old_25 (by rfl) ?_
      refine N_aldS C hsf (by omega) (by decide) (hsf2 _ (by omega)) dX3_old_27 ?_
      refine V_callV C hx (As := [.ref (A 6 t)]) (c_isNewerThan l hl base D ct sa (by omega) (by have := iS.2.2.1 t ht2; omega) ht0 ((hS t (by omega)).1 ht2).1) w_X3_146 ht0 rfl rfl (by decide) (by decide) ⟨by decide, by decide⟩ dX3_old_28 (by decide) (by decide) (fun _ _ h => h.elim) (fun v M1 hv => ?_)
      obtain ⟨rfl, rfl⟩ := hv
      refine VV.eqv (st' := [.int (b2i (decide (gFst σ t ≤ o)))]) rfl rfl ?_
      refine V_if_eq C 37 dX3_old_31 (by decide) (fun h31 => ?_) (fun h31 => ?_)
      · have e9 : newS σ o (t + 1) = newS σ o t := by
          have : ¬ gFst σ t ≤ o := by intro h; rw [decide_eq_true h] at h31; exact absurd h31 (by decide)
          simp [newS, this]
        refine V_inc1 C dX3_old_37 (by rfl) (by decide) ?_
        refine V_goto C 11 dX3_old_40 (by decide) ?_
        refine VV.loc [(0, .ref x), (1, .int (nI o)), (2, .ref (A 8 o)), (3, .int (nI (newS σ o (t + 1)))), (4, .int (nI (t + 1)))] ⟨rfl, rfl, rfl, (by rw [e9]; rfl), (by rw [← nI_1]; rfl), trivial⟩ ?_
        exact ih (t + 1) (by omega) (by omega)
      · have e9 : newS σ o (t + 1) = newS σ o t + 1 := by
          have : gFst σ t ≤ o := by
            rcases Nat.lt_or_ge o (gFst σ t) with h | h
            · rw [decide_eq_false (by omega)] at h31; exact absurd rfl h31
            · exact h
          simp [newS, this]
        refine V_inc1 C dX3_old_34 (by rfl) (by decide) ?_
        refine V_inc1 C dX3_old_37 (by rfl) (by decide) ?_
        refine V_goto C 11 dX3_old_40 (by decide) ?_
        refine VV.loc [(0, .ref x), (1, .int (nI o)), (2, .ref (A 8 o)), (3, .int (nI (newS σ o (t + 1)))), (4, .int (nI (t + 1)))] ⟨rfl, rfl, rfl, (by rw [e9, ← nI_1]; rfl), (by rw [← nI_1]; rfl), trivial⟩ ?_
        exact ih (t + 1) (by omega) (by omega)
    · exact ih t (by omega) h2
set_option maxHeartbeats 4000000 in
set_option maxRecDepth 100000 in
theorem c_old (l : Launch) (hl : l.stackTraces = false) (base : Nat) (D : va_G) (ct : Nat → ClassId) (sa : Nat → Nat) {A : Nat → Nat → Nat} {G ob : Nat → Nat} {σ : Sg} {M : Mem} {x B : Nat} (hC : RepC ct A G ob σ M x) (hI : Inv B σ) (hB : B ≤ 600) (k : Int32) :
    CT l yX3_old (.code yX3_old cX3_old 5 (some .int) :: WL) (rmK 7 2 12) base D ct sa M [.ref x, .int k] (PostC ct G M x (oOld σ k)) (PxC nmN M (oOld σ k)) := by
  refine CT.of hl (by decide) (Nat.le_of_ble_eq_true rfl) ?_
  intro p e s m below meth c C hr hx
  obtain ⟨hx0, hG, hO, hA, hT, hS, hR⟩ := id hC
  refine V_aload_n C dX3_old_0 (by rfl) ?_
  refine V_iload_n C dX3_old_1 (by rfl) ?_
  refine V_callV C hx (As := [.int k]) (c_existing l hl base D ct sa hC hI hB k) w_X3_63 hx0 rfl rfl (by decide) (by decide) ⟨by decide, by decide⟩ dX3_old_2 (by decide) (by decide) (fun E M1 h => by obtain ⟨h1, rfl, rfl⟩ := h; rw [show oOld σ k = (1, 0, σ) by simp [oOld, h1]]; exact ⟨Nat.one_pos, rfl, rfl⟩) (fun v M1 hv => ?_)
  obtain ⟨hk, rfl, rfl⟩ := hv
  obtain ⟨o, rfl, ho, ht, eo⟩ := isO_of hk (Nat.le_trans hI.1.1 hB)
  rw [eo]
  refine V_astore_n C dX3_old_5 (by decide) ?_
  refine V_iconst C (0) dX3_old_6 (by decide) ?_
  refine V_istore_n C dX3_old_7 (by decide) ?_
  refine V_iconst C (0) dX3_old_8 (by decide) ?_
  refine V_istore C dX3_old_9 (by decide) ?_
  refine VV.loc [(0, .ref x), (1, .int (nI o)), (2, .ref (A 8 o)), (3, .int (nI (newS σ o 0))), (4, .int (nI 0))] ⟨rfl, rfl, rfl, rfl, rfl, trivial⟩ ?_
  exact c_old_loop hl hC hI hB ho ht eo hk C hr hx (gSv σ) 0 (by omega) (Nat.zero_le _)
