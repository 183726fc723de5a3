/-! find, referredTo, existing, checkValue, checkIndex, refersToLocal, isNewerThan -/
theorem sub_ge {ob : Nat → Nat} {n : Nat} (h : ∀ i j, i < j → j < n → ob i < ob j) : ∀ j, j < n → j ≤ ob j := by
  intro j
  induction j with
  | zero => intro _; exact Nat.zero_le _
  | succ j ih => intro hj; have h1 := ih (by omega); have h2 := h j (j + 1) (by omega) hj; omega
/-- what find answers -/
def fnd (A : Nat → Nat → Nat) (σ : Sg) (k : Int32) : Option Nat := if isO σ k then some (A 8 k.toNatClampNeg) else none
theorem isO_of {σ : Sg} {k : Int32} (h : isO σ k = true) (hB : gMade σ ≤ 600) : ∃ o : Nat, k = nI o ∧ o < gMade σ ∧ gThere σ o = 1 ∧ k.toNatClampNeg = o := by
  simp only [isO, decide_eq_true_eq] at h
  obtain ⟨h1, h2, h3⟩ := h
  obtain ⟨o, h4, rfl⟩ := nI_of (Int32.not_lt.mpr h1)
  rw [nI_clamp h4] at h2 h3 ⊢
  exact ⟨o, rfl, h2, h3, rfl⟩
theorem isO_nI {σ : Sg} {o : Nat} (h1 : o < gMade σ) (h2 : gThere σ o = 1) (hB : gMade σ ≤ 600) : isO σ (nI o) = true := by
  have : o < 2 ^ 31 := by omega
  simp only [isO, decide_eq_true_eq]
  rw [nI_clamp this]
  exact ⟨nI_pos' this, h1, h2⟩
set_option maxHeartbeats 4000000 in
set_option maxRecDepth 100000 in
theorem c_find (l : Launch) (hl : l.stackTraces = false) (base : Nat) (D : va_G) (ct : Nat → ClassId) (sa : Nat → Nat) {A : Nat → Nat → Nat} {G ob : Nat → Nat} {σ : Sg} {M : Mem} {x B : Nat} (hC : RepC ct A G ob σ M x) (hI : Inv B σ) (hB : B ≤ 600) (k : Int32) :
    CT l yX3_find (.code yX3_find cX3_find 3 (some (.object "SaveRestore$Thing")) :: WL) (rmK 1 0 0) base D ct sa M [.ref x, .int k] (fun v M' => v = some (va_rf (fnd A σ k)) ∧ M' = M) noX := by
  refine CT.of hl (by decide) (Nat.le_of_ble_eq_true rfl) ?_
  intro p e s m below meth c C hr hx
  obtain ⟨hx0, hG, hO, ⟨⟨tf, htf, htf2⟩, hA2⟩, hT, hS, hR⟩ := hC
  have hb1 : gMade σ ≤ 600 := Nat.le_trans hI.1.1 hB
  have hb2 : gAlive σ ≤ 200 := hI.1.2.2.2.1
  have loop : ∀ t : Nat, t ≤ gAlive σ → ∀ z : Int32, (t = 0 → z < 0) → (0 < t → z = nI (t - 1)) → (∀ i, t ≤ i → i < gAlive σ → nI (ob i) ≠ k) → VV p l e (rmK 1 0 0) s m ([.ref x, .int k] : List Value).toArray below meth c 3 base D (QB base D (fun v M' => v = some (va_rf (fnd A σ k)) ∧ M' = M) noX below ([.ref x, .int k] : List Value).toArray s 0 0) M 0 0 11 [(0, .ref x), (1, .int k), (2, .int z)] [] := by
    intro t
    induction t with
    | zero =>
      intro _ z hz _ hq
      have nz : ¬ ¬ z < 0 := fun h => h (hz rfl)
      have fz : fnd A σ k = none := by
        unfold fnd
        split
        · rename_i h
          obtain ⟨o, rfl, h1, h2, -⟩ := isO_of h hb1
          obtain ⟨j, hj, rfl⟩ := hO.2.2 o h1 h2
          exact absurd rfl (hq j (Nat.zero_le _) hj)
        · rfl
      refine V_iload_n C dX3_find_11 (by rfl) ?_
      refine V_if_lt C 41 dX3_find_12 (by decide) (fun h_12 => ?_) (fun h_12 => absurd h_12 (nz))
      refine V_null C dX3_find_41 ?_
      exact V_aret C hr (Or.inl rfl) (by decide) (by decide) dX3_find_42 ⟨by rw [fz]; rfl, rfl⟩
    | succ t ih =>
      intro ht z _ hz hq
      have hz := hz (by omega)
      simp only [Nat.add_sub_cancel] at hz
      subst hz
      have ho := hO.1 t (by omega)
      have fs : nI (ob t) = k → fnd A σ k = some (A 8 (ob t)) := by
        rintro rfl
        unfold fnd
        rw [if_pos (isO_nI ho.1 ho.2 hb1), nI_clamp (by omega)]
      refine V_iload_n C dX3_find_11 (by rfl) ?_
      refine V_if_lt C 41 dX3_find_12 (by decide) (fun h_12 => absurd h_12 (nI_pos (by omega))) (fun h_12 => ?_)
      refine V_aload_n C dX3_find_15 (by rfl) ?_
      refine V_get C (ci := 3) (by assumption) rfl wu_X3 0 (by decide) fl_X3_11 rfl (by rfl) dX3_find_16 ?_
      refine V_iload_n C dX3_find_19 (by rfl) ?_
      refine N_aldT C htf (by omega) (by decide) (htf2 _ (by omega)) dX3_find_20 ?_
      refine V_get C (ci := 2) (hT _ (hO.1 _ (by omega)).2).1 rfl wu_X2 0 (by decide) fl_X3_60 rfl (by rfl) dX3_find_21 ?_
      refine V_iload_n C dX3_find_24 (by rfl) ?_
      refine V_icmp_ne C 35 dX3_find_25 (by decide) (fun h25 => ?_) (fun h25 => ?_)
      · refine V_incm C dX3_find_35 (by rfl) (by decide) ?_
        refine V_goto C 11 dX3_find_38 (by decide) ?_
        refine VV.loc [(0, .ref x), (1, .int k), (2, .int (nI t + (-1)))] ⟨rfl, rfl, rfl, trivial⟩ ?_
        exact ih (by omega) _ (fun h => by subst h; decide) (fun h => by rw [sb_m1 h]) (fun i h1 h2 => by
          rcases Nat.lt_or_ge t i with h | h
          · exact hq i h h2
          · have : i = t := by omega
            subst this; exact h25)
      · refine V_aload_n C dX3_find_28 (by rfl) ?_
        refine V_get C (ci := 3) (by assumption) rfl wu_X3 0 (by decide) fl_X3_11 rfl (by rfl) dX3_find_29 ?_
        refine V_iload_n C dX3_find_32 (by rfl) ?_
        refine N_aldT C htf (by omega) (by decide) (htf2 _ (by omega)) dX3_find_33 ?_
        exact V_aret C hr (Or.inr ⟨_, rfl⟩) (by decide) (by decide) dX3_find_34 ⟨by rw [fs h25]; rfl, rfl⟩
  have start : VV p l e (rmK 1 0 0) s m ([.ref x, .int k] : List Value).toArray below meth c 3 base D (QB base D (fun v M' => v = some (va_rf (fnd A σ k)) ∧ M' = M) noX below ([.ref x, .int k] : List Value).toArray s 0 0) M 0 0 11 [(0, .ref x), (1, .int k), (2, .int (if nI (gAlive σ) - 1 < k then nI (gAlive σ) - 1 else k))] [] := by
    by_cases hk : k < 0
    · refine loop 0 (Nat.zero_le _) _ (fun _ => ?_) (fun h => absurd h (by omega)) (fun i _ hi => ?_)
      · split
        · rename_i h; exact Int32.lt_trans h hk
        · exact hk
      · intro e; rw [← e] at hk; exact nI_pos (by have := (hO.1 i hi).1; omega) hk
    · obtain ⟨o, ho, rfl⟩ := nI_of hk
      rcases Nat.eq_zero_or_pos (gAlive σ) with h0 | h0
      · rw [h0]
        refine loop 0 (Nat.zero_le _) _ (fun _ => ?_) (fun h => absurd h (by omega)) (fun i _ hi => absurd hi (by omega))
        rw [if_pos]
        · decide
        · rw [Int32.lt_iff_toInt_lt, nI_toInt ho]
          have : (nI 0 - 1).toInt = -1 := by decide
          omega
      · have e1 : nI (gAlive σ) - 1 = nI (gAlive σ - 1) := by
          have := nI_pred (gAlive σ - 1)
          rw [show gAlive σ - 1 + 1 = gAlive σ by omega] at this
          exact this
        rw [e1]
        by_cases h : gAlive σ - 1 < o
        · rw [if_pos ((nI_ltI (by omega) ho).mpr h)]
          exact loop (gAlive σ) (Nat.le_refl _) _ (fun h => absurd h (by omega)) (fun _ => rfl) (fun i h1 h2 => absurd h2 (by omega))
        · rw [if_neg (fun g => h ((nI_ltI (by omega) ho).mp g))]
          refine loop (o + 1) (by omega) _ (fun h => absurd h (by omega)) (fun _ => rfl) (fun i h1 h2 e => ?_)
          have h3 := sub_ge hO.2.1 i h2
          have h4 := (hO.1 i h2).1
          rw [nI_eq (by omega) ho] at e
          omega
  refine V_iload_n C dX3_find_0 (by rfl) ?_
  refine V_aload_n C dX3_find_1 (by rfl) ?_
  refine V_get C (ci := 3) (by assumption) rfl wu_X3 1 (by decide) fl_X3_15 rfl (by rfl) dX3_find_2 ?_
  refine V_iconst C (1) dX3_find_5 (by decide) ?_
  refine V_isub C dX3_find_6 ?_
  refine V_mmin C ml_X3_157 st_min ini_Math co_min (by decide) (by decide) (by decide) (by decide) dX3_find_7 ?_
  refine V_istore_n C dX3_find_10 (by decide) ?_
  refine VV.loc [(0, .ref x), (1, .int k), (2, .int (if nI (gAlive σ) - 1 < k then nI (gAlive σ) - 1 else k))] ⟨rfl, rfl, rfl, trivial⟩ ?_
  exact start
