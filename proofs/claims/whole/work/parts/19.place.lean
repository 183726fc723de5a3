/-! placeOfLiving, keptRefersToNewer, dropLocalsNewerThan -/
set_option maxHeartbeats 4000000 in
set_option maxRecDepth 100000 in
theorem c_placeOfLiving (l : Launch) (hl : l.stackTraces = false) (base : Nat) (D : va_G) (ct : Nat → ClassId) (sa : Nat → Nat) {A : Nat → Nat → Nat} {G ob : Nat → Nat} {σ : Sg} {M : Mem} {x B : Nat} (hC : RepC ct A G ob σ M x) (hI : Inv B σ) (hB : B ≤ 600) (n : Int32) :
    CT l yX3_placeOfLiving (.code yX3_placeOfLiving cX3_placeOfLiving 3 (some .int) :: WL) (rmK 1 0 0) base D ct sa M [.ref x, .int n] (fun v9 M' => (∃ z, v9 = some (.int z) ∧ ((∃ k, k < gSv σ ∧ nI (gNum σ k) = n ∧ z = nI k) ∨ ((∀ k, k < gSv σ → nI (gNum σ k) ≠ n) ∧ z = -1))) ∧ M' = M) noX := by
  refine CT.of hl (by decide) (Nat.le_of_ble_eq_true rfl) ?_
  intro p e s m below meth c C hr hx
  obtain ⟨hx0, hG, hO, hA, hT, hS, hR⟩ := id hC
  obtain ⟨sf9, hsf, hsf2⟩ := hA.2.1
  have i5 := hI.1.2.2.2.2.1
  have loop : ∀ t : Nat, t ≤ gSv σ → ∀ z : Int32, (t = 0 → z < 0) → (0 < t → z = nI (t - 1)) → (∀ i, t ≤ i → i < gSv σ → nI (gNum σ i) ≠ n) → VV p l e (rmK 1 0 0) s m ([.ref x, .int n] : List Value).toArray below meth c 3 base D (QB base D (fun v9 M' => (∃ z, v9 = some (.int z) ∧ ((∃ k, k < gSv σ ∧ nI (gNum σ k) = n ∧ z = nI k) ∨ ((∀ k, k < gSv σ → nI (gNum σ k) ≠ n) ∧ z = -1))) ∧ M' = M) noX below ([.ref x, .int n] : List Value).toArray s 0 0) M 0 0 7 [(0, .ref x), (1, .int n), (2, .int z)] [] := by
    intro t
    induction t with
    | zero =>
      intro _ z hz _ hq
      have nz : ¬ ¬ z < 0 := fun h => h (hz rfl)
      refine V_iload_n C dX3_placeOfLiving_7 (by rfl) ?_
      refine V_if_lt C 32 dX3_placeOfLiving_8 (by decide) (fun h_8 => ?_) (fun h_8 => absurd h_8 (nz))
      refine V_iconst C (-1) dX3_placeOfLiving_32 (by decide) ?_
      exact V_iret C hr (by decide) (by decide) dX3_placeOfLiving_33 ⟨⟨_, rfl, Or.inr ⟨fun k hk => hq k (Nat.zero_le _) hk, rfl⟩⟩, rfl⟩
    | succ t ih =>
      intro ht z _ hz hq
      have hz := hz (by omega)
      simp only [Nat.add_sub_cancel] at hz
      subst hz
      refine V_iload_n C dX3_placeOfLiving_7 (by rfl) ?_
      refine V_if_lt C 32 dX3_placeOfLiving_8 (by decide) (fun h_8 => absurd h_8 (nI_pos (by omega))) (fun h_8 => ?_)
      refine V_aload_n C dX3_placeOfLiving_11 (by rfl) ?_
      refine V_get C (ci := 3) hx0 rfl wu_X3 3 (by decide) fl_X3_24 rfl (by rfl) dX3_placeOfLiving_12 ?_
      refine V_iload_n C dX3_placeOfLiving_15 (by rfl) ?_
      refine N_aldS C hsf (by omega) (by decide) (hsf2 t (by omega)) dX3_placeOfLiving_16 ?_
      refine V_get C (ci := 1) ((hS t (by omega)).1 (by omega)).1 rfl wu_X1 0 (by decide) fl_X3_97 rfl (by rfl) dX3_placeOfLiving_17 ?_
      refine V_iload_n C dX3_placeOfLiving_20 (by rfl) ?_
      refine V_icmp_ne C 26 dX3_placeOfLiving_21 (by decide) (fun h21 => ?_) (fun h21 => ?_)
      · refine V_incm C dX3_placeOfLiving_26 (by rfl) (by decide) ?_
        refine V_goto C 7 dX3_placeOfLiving_29 (by decide) ?_
        refine VV.loc [(0, .ref x), (1, .int n), (2, .int (nI t + (-1)))] ⟨rfl, rfl, rfl, trivial⟩ ?_
        exact ih (by omega) _ (fun h => by subst h; decide) (fun h => by rw [sb_m1 h]) (fun i h1 h2 => by
          rcases Nat.lt_or_ge t i with h | h
          · exact hq i h h2
          · have : i = t := by omega
            subst this; exact h21)
      · refine V_iload_n C dX3_placeOfLiving_24 (by rfl) ?_
        exact V_iret C hr (by decide) (by decide) dX3_placeOfLiving_25 ⟨⟨_, rfl, Or.inl ⟨t, by omega, h21, rfl⟩⟩, rfl⟩
  refine V_aload_n C dX3_placeOfLiving_0 (by rfl) ?_
  refine V_get C (ci := 3) hx0 rfl wu_X3 4 (by decide) fl_X3_28 rfl (by rfl) dX3_placeOfLiving_1 ?_
  refine V_iconst C (1) dX3_placeOfLiving_4 (by decide) ?_
  refine V_isub C dX3_placeOfLiving_5 ?_
  refine V_istore_n C dX3_placeOfLiving_6 (by decide) ?_
  refine VV.loc [(0, .ref x), (1, .int n), (2, .int (nI (gSv σ) - 1))] ⟨rfl, rfl, rfl, trivial⟩ ?_
  exact loop (gSv σ) (Nat.le_refl _) _ (fun h => by rw [h]; decide) (fun h => pk_sub (b := 1) h) (fun i h1 h2 => absurd h2 (by omega))
set_option maxHeartbeats 4000000 in
set_option maxRecDepth 100000 in
theorem c_keptRefersToNewer (l : Launch) (hl : l.stackTraces = false) (base : Nat) (D : va_G) (ct : Nat → ClassId) (sa : Nat → Nat) {A : Nat → Nat → Nat} {G ob : Nat → Nat} {σ : Sg} {M : Mem} {x B : Nat} (hC : RepC ct A G ob σ M x) (hI : Inv B σ) (hB : B ≤ 600) {k : Nat} (hk : k < gSv σ) :
    CT l yX3_keptRefersToNewer (.code yX3_keptRefersToNewer cX3_keptRefersToNewer 4 (some .boolean) :: WL) (rmK 3 0 0) base D ct sa M [.ref x, .ref (A 6 k)] (fun (v9 : Option Value) (M' : Mem) => v9 = some (.int (b2i (isNw σ (gPa σ 8) (gFst σ k) || isNw σ (gPa σ 9) (gFst σ k)))) ∧ M' = M) noX := by
  refine CT.of hl (by decide) (Nat.le_of_ble_eq_true rfl) ?_
  intro p e s m below meth c C hr hx
  obtain ⟨hx0, hG, hO, hA, hT, hS, hR⟩ := id hC
  obtain ⟨pf, hp, hp2⟩ := hA.2.2.1
  have i5 := hI.1.2.2.2.2.1
  have hmd := Nat.le_trans hI.1.1 hB
  have hfm := hI.2.2.1.2.2.1 k hk
  have hs6 := ((hS k (by omega)).1 hk).1
  have step : ∀ w : Nat, 8 ≤ w → w < 10 → (isNw σ (gPa σ w) (gFst σ k) = true → (fun (v9 : Option Value) (M' : Mem) => v9 = some (.int (b2i (isNw σ (gPa σ 8) (gFst σ k) || isNw σ (gPa σ 9) (gFst σ k)))) ∧ M' = M) (some (.int 1)) M) → (isNw σ (gPa σ w) (gFst σ k) = false → VV p l e (rmK 3 0 0) s m ([.ref x, .ref (A 6 k)] : List Value).toArray below meth c 4 base D (QB base D (fun (v9 : Option Value) (M' : Mem) => v9 = some (.int (b2i (isNw σ (gPa σ 8) (gFst σ k) || isNw σ (gPa σ 9) (gFst σ k)))) ∧ M' = M) noX below ([.ref x, .ref (A 6 k)] : List Value).toArray s 0 0) M 0 0 41 [(0, .ref x), (1, .ref (A 6 k)), (2, .int (nI w))] []) → VV p l e (rmK 3 0 0) s m ([.ref x, .ref (A 6 k)] : List Value).toArray below meth c 4 base D (QB base D (fun (v9 : Option Value) (M' : Mem) => v9 = some (.int (b2i (isNw σ (gPa σ 8) (gFst σ k) || isNw σ (gPa σ 9) (gFst σ k)))) ∧ M' = M) noX below ([.ref x, .ref (A 6 k)] : List Value).toArray s 0 0) M 0 0 9 [(0, .ref x), (1, .ref (A 6 k)), (2, .int (nI w))] [] := by
    intro w hw1 hw2 kt kf
    have e9 : pf w = gPa σ w := hp2 w hw2
    have hvv : isV σ (pf w) = true := by
      rw [e9]
      rcases (show w = 8 ∨ w = 9 by omega) with rfl | rfl
      · exact hI.2.2.2.2.1.1.1
      · exact hI.2.2.2.2.1.1.2
    rw [← e9] at kt kf
    by_cases hv0 : 0 ≤ pf w
    · have hf : rft A σ (pf w) = none := by unfold rft; rw [if_pos hv0]
      have hnw : isNw σ (pf w) (gFst σ k) = false := by simp only [isNw, decide_eq_false_iff_not]; rintro ⟨h, _⟩; exact Int32.not_lt.mpr hv0 h
      refine V_aload_n C dX3_keptRefersToNewer_9 (by rfl) ?_
      refine V_aload_n C dX3_keptRefersToNewer_10 (by rfl) ?_
      refine V_get C (ci := 3) hx0 rfl wu_X3 7 (by decide) fl_X3_37 rfl (by rfl) dX3_keptRefersToNewer_11 ?_
      refine V_iload_n C dX3_keptRefersToNewer_14 (by rfl) ?_
      refine N_iald C hp hw2 (by decide) dX3_keptRefersToNewer_15 ?_
      refine V_callV C hx (As := [.int (pf w)]) (c_referredTo l hl base D ct sa hC hI hB (pf w)) w_X3_160 hx0 rfl rfl (by decide) (Nat.le_of_ble_eq_true rfl) ⟨by decide, by decide⟩ dX3_keptRefersToNewer_16 (by decide) (by decide) (fun _ _ h => h.elim) (fun v9 M1 hv => ?_)
      obtain ⟨rfl, rfl⟩ := hv
      refine VV.eqv (st' := [.null]) rfl (by rw [hf]; rfl) ?_
      refine V_astore_nN C dX3_keptRefersToNewer_19 (by decide) ?_
      refine V_aload_nN C dX3_keptRefersToNewer_20 (by rfl) ?_
      refine V_ifnullN C 41 dX3_keptRefersToNewer_21 (by decide) ?_
      refine VV.loc [(0, .ref x), (1, .ref (A 6 k)), (2, .int (nI w))] ⟨rfl, rfl, rfl, trivial⟩ ?_
      exact kf hnw
    · have hok : isO σ (-1 - pf w) = true := by simpa [isV, hv0] using hvv
      have hf : rft A σ (pf w) = some (A 8 (rfOf (pf w))) := by unfold rft; rw [if_neg hv0]; simp [fnd, hok, rfOf]
      obtain ⟨o9, e1, h1, ht, e2⟩ := isO_of hok hmd
      have e3 : rfOf (pf w) = o9 := e2
      rw [← e3] at ht h1
      have ht0 := (hT _ ht).1
      refine V_aload_n C dX3_keptRefersToNewer_9 (by rfl) ?_
      refine V_aload_n C dX3_keptRefersToNewer_10 (by rfl) ?_
      refine V_get C (ci := 3) hx0 rfl wu_X3 7 (by decide) fl_X3_37 rfl (by rfl) dX3_keptRefersToNewer_11 ?_
      refine V_iload_n C dX3_keptRefersToNewer_14 (by rfl) ?_
      refine N_iald C hp hw2 (by decide) dX3_keptRefersToNewer_15 ?_
      refine V_callV C hx (As := [.int (pf w)]) (c_referredTo l hl base D ct sa hC hI hB (pf w)) w_X3_160 hx0 rfl rfl (by decide) (Nat.le_of_ble_eq_true rfl) ⟨by decide, by decide⟩ dX3_keptRefersToNewer_16 (by decide) (by decide) (fun _ _ h => h.elim) (fun v9 M1 hv => ?_)
      obtain ⟨rfl, rfl⟩ := hv
      refine VV.eqv (st' := [.ref (A 8 (rfOf (pf w)))]) rfl (by rw [hf]; rfl) ?_
      refine V_astore_n C dX3_keptRefersToNewer_19 (by decide) ?_
      refine V_aload_n C dX3_keptRefersToNewer_20 (by rfl) ?_
      refine V_ifnull C dX3_keptRefersToNewer_21 ?_
      refine V_aload_n C dX3_keptRefersToNewer_24 (by rfl) ?_
      refine V_get C (ci := 2) ht0 rfl wu_X2 1 (by decide) fl_X3_75 rfl (by rfl) dX3_keptRefersToNewer_25 ?_
      refine V_if_ne C 41 dX3_keptRefersToNewer_28 (by decide) (fun h28 => ?_) (fun h28 => ?_)
      · refine VV.loc [(0, .ref x), (1, .ref (A 6 k)), (2, .int (nI w))] ⟨rfl, rfl, rfl, trivial⟩ ?_
        exact kf (by simp only [isNw, decide_eq_false_iff_not]; rintro ⟨_, _, h⟩; rw [h] at h28; exact h28 rfl)
      · refine V_aload_n C dX3_keptRefersToNewer_31 (by rfl) ?_
        refine V_aload_n C dX3_keptRefersToNewer_32 (by rfl) ?_
        refine V_callV C hx (As := [.ref (A 6 k)]) (c_isNewerThan l hl base D ct sa (by omega) (by omega) ht0 hs6) w_X3_146 ht0 rfl rfl (by decide) (Nat.le_of_ble_eq_true rfl) ⟨by decide, by decide⟩ dX3_keptRefersToNewer_33 (by decide) (by decide) (fun _ _ h => h.elim) (fun v9 M2 hv => ?_)
        obtain ⟨rfl, rfl⟩ := hv
        refine VV.eqv (st' := [.int (b2i (decide (gFst σ k ≤ rfOf (pf w))))]) rfl rfl ?_
        have hg0 : gGlob σ (rfOf (pf w)) = 0 := by
          have := hI.2.1.2.1 (rfOf (pf w))
          rcases Nat.eq_zero_or_pos (gGlob σ (rfOf (pf w))) with h | h
          · exact h
          · rw [show gGlob σ (rfOf (pf w)) = 1 by omega] at h28; exact absurd h28 (by decide)
        refine V_if_eq C 41 dX3_keptRefersToNewer_36 (by decide) (fun h36 => ?_) (fun h36 => ?_)
        · refine VV.loc [(0, .ref x), (1, .ref (A 6 k)), (2, .int (nI w))] ⟨rfl, rfl, rfl, trivial⟩ ?_
          exact kf (by simp only [isNw, decide_eq_false_iff_not]; rintro ⟨_, h, _⟩; rw [decide_eq_true h] at h36; exact absurd h36 (by decide))
        · refine V_iconst C (1) dX3_keptRefersToNewer_39 (by decide) ?_
          exact V_zret C hr (by rfl) (by decide) (by decide) dX3_keptRefersToNewer_40 (kt (by simp only [isNw, decide_eq_true_eq]; refine ⟨Int32.not_le.mp hv0, ?_, hg0⟩; rcases Nat.lt_or_ge (rfOf (pf w)) (gFst σ k) with h | h; rw [decide_eq_false (by omega)] at h36; exact absurd rfl h36; exact h))
  refine V_bipush C (nI 8) dX3_keptRefersToNewer_0 (by decide) ?_
  refine V_istore_n C dX3_keptRefersToNewer_2 (by decide) ?_
  refine V_iload_n C dX3_keptRefersToNewer_3 (by rfl) ?_
  refine V_bipush C (nI 10) dX3_keptRefersToNewer_4 (by decide) ?_
  refine V_icmp_ge C 47 dX3_keptRefersToNewer_6 (by decide) (fun h_6 => absurd h_6 (by decide)) (fun h_6 => ?_)
  refine VV.loc [(0, .ref x), (1, .ref (A 6 k)), (2, .int (nI 8))] ⟨rfl, rfl, rfl, trivial⟩ ?_
  refine step 8 (by decide) (by decide) (fun h => ⟨by rw [h]; rfl, rfl⟩) (fun h8 => ?_)
  refine V_inc1 C dX3_keptRefersToNewer_41 (by rfl) (by decide) ?_
  refine V_goto C 3 dX3_keptRefersToNewer_44 (by decide) ?_
  refine VV.loc [(0, .ref x), (1, .ref (A 6 k)), (2, .int (nI 9))] ⟨rfl, rfl, rfl, trivial⟩ ?_
  refine V_iload_n C dX3_keptRefersToNewer_3 (by rfl) ?_
  refine V_bipush C (nI 10) dX3_keptRefersToNewer_4 (by decide) ?_
  refine V_icmp_ge C 47 dX3_keptRefersToNewer_6 (by decide) (fun h_6 => absurd h_6 (by decide)) (fun h_6 => ?_)
  refine VV.loc [(0, .ref x), (1, .ref (A 6 k)), (2, .int (nI 9))] ⟨rfl, rfl, rfl, trivial⟩ ?_
  refine step 9 (by decide) (by decide) (fun h => ⟨by rw [h8, h]; rfl, rfl⟩) (fun h9 => ?_)
  refine V_inc1 C dX3_keptRefersToNewer_41 (by rfl) (by decide) ?_
  refine V_goto C 3 dX3_keptRefersToNewer_44 (by decide) ?_
  refine VV.loc [(0, .ref x), (1, .ref (A 6 k)), (2, .int (nI 10))] ⟨rfl, rfl, rfl, trivial⟩ ?_
  refine V_iload_n C dX3_keptRefersToNewer_3 (by rfl) ?_
  refine V_bipush C (nI 10) dX3_keptRefersToNewer_4 (by decide) ?_
  refine V_icmp_ge C 47 dX3_keptRefersToNewer_6 (by decide) (fun h_6 => ?_) (fun h_6 => absurd h_6 (by decide))
  refine V_iconst C (0) dX3_keptRefersToNewer_47 (by decide) ?_
  exact V_zret C hr (by rfl) (by decide) (by decide) dX3_keptRefersToNewer_48 ⟨by rw [h8, h9]; rfl, rfl⟩
