/-! save -/
theorem nI_max {a b : Nat} (ha : a < 2 ^ 31) (hb : b < 2 ^ 31) : (if nI a < nI b then nI b else nI a) = nI (max a b) := by
  by_cases h : a < b
  · rw [if_pos ((nI_ltI ha hb).mpr h), Nat.max_eq_right (by omega)]
  · rw [if_neg (fun g => h ((nI_ltI ha hb).mp g)), Nat.max_eq_left (by omega)]
set_option maxHeartbeats 4000000 in
theorem saveC {ct : Nat → ClassId} {A : Nat → Nat → Nat} {G ob : Nat → Nat} {σ : Sg} {M : Mem} {x B : Nat} (hC : RepC ct A G ob σ M x) (hI : Inv B σ) (hlt : gSv σ < 16) {pf g : Nat → Int32} (hp2 : ∀ j, j < 10 → pf j = σ.2 2 j) {M' : Mem} (hold : ∀ a, a ≠ x → a ≠ A 6 (gSv σ) → a ≠ A 7 (gSv σ) → M' a = M a)
    (mx : M' x = some (xE A (sSave σ))) (m6 : M' (A 6 (gSv σ)) = some (sE A σ (gSv σ) (nI (gLast σ + 1)) (nI (gMade σ)) (nI (gSt σ)) none 0)) (m7 : M' (A 7 (gSv σ)) = some (.inl (ct 0, 8, .inl (va_cpy pf g 0 0 8)))) : RepC ct A G ob (sSave σ) M' x := by
  obtain ⟨hx0, hG, hO, ⟨⟨tf, a1, a2⟩, ⟨s9, a3, a4⟩, a5, ⟨uf, a6, a7⟩, a8⟩, hT, hS, hR⟩ := hC
  have g6 := hG.2.2.2.1 _ hlt
  have hs : ∀ a, G a ≠ 13 → G a ≠ 16 * gSv σ + 6 → G a ≠ 16 * gSv σ + 7 → M' a = M a := fun a h1 h2 h3 => hold a (fun e => h1 (by rw [e]; exact hG.1)) (fun e => h2 (by rw [e]; exact g6.1)) (fun e => h3 (by rw [e]; exact g6.2))
  have ev : gSv (sSave σ) = gSv σ + 1 := rfl
  have en : ∀ k, gNum (sSave σ) k = va_up (σ.1 7) (gSv σ) (gLast σ + 1) k := fun _ => rfl
  have ef : ∀ k, gFst (sSave σ) k = va_up (σ.1 8) (gSv σ) (gMade σ) k := fun _ => rfl
  have es : ∀ k, gSb (sSave σ) k = va_up (σ.1 10) (gSv σ) (gSt σ) k := fun _ => rfl
  have eh : ∀ q, gHad (sSave σ) q = va_cpy (σ.2 2) (σ.2 3) 0 (10 * gSv σ) 10 q := fun _ => rfl
  have owk : ∀ k c, k ≤ gSv σ → ownr (sSave σ) k c = ownr σ k c := fun k c hk => ownr_congr k c (fun j _ => rbx_save j) (fun _ _ _ _ _ => rfl) (fun j hj => by rw [en, va_up_ne _ _ (by omega)])
  have rbt : rbx σ (gSv σ) = gRows σ := by unfold rbx; rw [if_neg (Nat.lt_irrefl _)]
  have rbt1 : rbx σ (gSv σ + 1) = gRows σ := by unfold rbx; rw [if_neg (by omega)]
  have owt : ∀ c, ownr (sSave σ) (gSv (sSave σ)) c = ownr σ (gSv σ) c := by
    intro c
    rw [ev]
    simp only [ownr]
    rw [rbx_save, rbx_save, rbt, rbt1, show hasR (sSave σ) (gRows σ) (gRows σ) c = false by rw [Bool.eq_false_iff]; intro h; obtain ⟨r, h1, h2, -⟩ := hasR_iff.mp h; omega]
    exact owk _ c (Nat.le_refl _)
  refine ⟨mx, hG, hO, ⟨⟨tf, ?_, a2⟩, ⟨s9, ?_, a4⟩, a5.same (hs _ (by rw [hG.2.1 3 (by decide) (by decide)]; omega) (by rw [hG.2.1 3 (by decide) (by decide)]; omega) (by rw [hG.2.1 3 (by decide) (by decide)]; omega)), ⟨uf, ?_, a7⟩, fun k hk => ?_⟩, fun o' ho' => ?_, fun k hk => ?_, fun k r h1 h2 h3 => ?_⟩
  · rw [hs _ (by rw [hG.2.1 1 (by decide) (by decide)]; omega) (by rw [hG.2.1 1 (by decide) (by decide)]; omega) (by rw [hG.2.1 1 (by decide) (by decide)]; omega)]; exact a1
  · rw [hs _ (by rw [hG.2.1 2 (by decide) (by decide)]; omega) (by rw [hG.2.1 2 (by decide) (by decide)]; omega) (by rw [hG.2.1 2 (by decide) (by decide)]; omega)]; exact a3
  · rw [hs _ (by rw [hG.2.1 4 (by decide) (by decide)]; omega) (by rw [hG.2.1 4 (by decide) (by decide)]; omega) (by rw [hG.2.1 4 (by decide) (by decide)]; omega)]; exact a6
  · rw [hs _ (by rw [hG.2.2.1 k hk]; omega) (by rw [hG.2.2.1 k hk]; omega) (by rw [hG.2.2.1 k hk]; omega)]; exact a8 k hk
  · have t := hG.2.2.2.2.1 o' ho'
    exact (hT o' ho').mv (hs _ (by rw [t.1]; omega) (by rw [t.1]; omega) (by rw [t.1]; omega)) (hs _ (by rw [t.2.1]; omega) (by rw [t.2.1]; omega) (by rw [t.2.1]; omega)) (hs _ (by rw [t.2.2.1]; omega) (by rw [t.2.2.1]; omega) (by rw [t.2.2.1]; omega)) (hs _ (by rw [t.2.2.2]; omega) (by rw [t.2.2.2]; omega) (by rw [t.2.2.2]; omega)) rfl (fun _ _ => rfl) (fun _ _ => rfl) (fun i _ => (owt _).symm)
  · have t := hG.2.2.2.1 k hk
    by_cases e : k = gSv σ
    · subst e
      refine ⟨fun _ => ⟨?_, ⟨_, m7, fun j hj => ?_⟩⟩, fun h => absurd h (by rw [ev]; omega)⟩
      · rw [m6, en, ef, es, va_up_self, va_up_self, va_up_self, rbx_save, rbx_save, rbt, rbt1, Nat.sub_self]
        rw [show rowOf A (gRows σ) (gRows σ) = none by unfold rowOf; rw [if_neg (Nat.lt_irrefl _)]]
        rfl
      · show va_cpy pf g 0 0 8 j = gHad (sSave σ) (10 * gSv σ + j)
        have q1 : va_cpy pf g 0 0 8 j = pf j := by have := cpy_at (f := pf) (g := g) (sp := 0) (dp := 0) hj; simpa using this
        rw [q1, eh, cpy_at (by omega), hp2 j (by omega), Nat.zero_add]
    · have m6' := hs _ (by rw [t.1]; omega) (by rw [t.1]; omega) (by rw [t.1]; omega)
      have m7' := hs _ (by rw [t.2]; omega) (by rw [t.2]; omega) (by rw [t.2]; omega)
      refine ⟨fun h => ?_, fun h => ?_⟩
      · have hk' : k < gSv σ := by rw [ev] at h; omega
        obtain ⟨p1, p2⟩ := (hS k hk).1 hk'
        refine ⟨?_, (p2.same m7').to (fun j hj => ?_)⟩
        · rw [m6', p1, en, ef, es, va_up_ne _ _ e, va_up_ne _ _ e, va_up_ne _ _ e, rbx_save, rbx_save]
        · rw [eh, pk_cpy_out (by omega)]
      · obtain ⟨n, f, p, g9, p1, p2⟩ := (hS k hk).2 (by rw [ev] at h; omega)
        exact ⟨n, f, p, g9, by rw [m6', p1], by rw [m7', p2]⟩
  · rw [ev] at h1
    rw [rbx_save] at h2 h3
    by_cases e : k = gSv σ
    · subst e; omega
    · have t := hG.2.2.2.2.2 r (Nat.lt_of_lt_of_le h3 (rbx_le hI _))
      exact (hR k r (by omega) h2 h3).mv (hs _ (by rw [t]; omega) (by rw [t]; omega) (by rw [t]; omega)) rfl rfl (owk _ _ (by omega)) (rbx_save _)
set_option maxHeartbeats 4000000 in
set_option maxRecDepth 100000 in
theorem c_save (l : Launch) (hl : l.stackTraces = false) (base : Nat) (D : va_G) (ct : Nat → ClassId) (sa : Nat → Nat) {A : Nat → Nat → Nat} {G ob : Nat → Nat} {σ : Sg} {M : Mem} {x B : Nat} (hC : RepC ct A G ob σ M x) (hI : Inv B σ) (hB : B ≤ 600) :
    CT l yX3_save (.code yX3_save cX3_save 2 (some .int) :: WL) (rmK 7 5 32) base D ct sa M [.ref x] (PostC ct G M x (oSave σ)) (PxC nmU M (oSave σ)) := by
  refine CT.of hl (by decide) (Nat.le_of_ble_eq_true rfl) ?_
  intro p e s m below meth c C hr hx
  obtain ⟨hx0, hG, hO, hA, hT, hS, hR⟩ := id hC
  obtain ⟨sf9, hsf, hsf2⟩ := hA.2.1
  obtain ⟨pf, hp, hp2⟩ := hA.2.2.1
  obtain ⟨⟨i1, i2, i3, i4, i5, i6, i7, i8⟩, -⟩ := id hI
  refine V_aload_n C dX3_save_0 (by rfl) ?_
  refine V_get C (ci := 3) hx0 rfl wu_X3 4 (by decide) fl_X3_28 rfl (by rfl) dX3_save_1 ?_
  refine V_bipush C (nI 16) dX3_save_4 (by decide) ?_
  refine V_icmp_lt C 19 dX3_save_6 (by decide) (fun h6 => ?_) (fun h6 => ?_)
  · have hlt : gSv σ < 16 := (nI_ltI (by omega) (by decide)).mp h6
    obtain ⟨n9, f9, p9, g, hs6, hs7⟩ := (hS (gSv σ) hlt).2 (Nat.le_refl _)
    have g6 := hG.2.2.2.1 _ hlt
    have n6x : A 6 (gSv σ) ≠ x := ne_tag g6.1 hG.1 (by omega)
    have n7x : A 7 (gSv σ) ≠ x := ne_tag g6.2 hG.1 (by omega)
    have n67 : A 6 (gSv σ) ≠ A 7 (gSv σ) := ne_tag g6.1 g6.2 (by omega)
    have n2x : A 2 0 ≠ x := ne_tag (hG.2.1 2 (by decide) (by decide)) hG.1 (by decide)
    have n3x : A 3 0 ≠ x := ne_tag (hG.2.1 3 (by decide) (by decide)) hG.1 (by decide)
    have n36 : A 3 0 ≠ A 6 (gSv σ) := ne_tag (hG.2.1 3 (by decide) (by decide)) g6.1 (by omega)
    refine V_aload_n C dX3_save_19 (by rfl) ?_
    refine V_dup C dX3_save_20 rfl ?_
    refine V_get C (ci := 3) hx0 rfl wu_X3 5 (by decide) fl_X3_31 rfl (by rfl) dX3_save_21 ?_
    refine V_iconst C (1) dX3_save_24 (by decide) ?_
    refine V_iadd C dX3_save_25 ?_
    refine V_top (nI_1 _) ?_
    refine V_put C (ci := 3) hx0 rfl wu_X3 5 (by decide) fl_X3_31 rfl tyX3 tyX3_ok nmX3 rfl (by rfl) (by rfl) (Nat.le_of_ble_eq_true rfl) dX3_save_26 ?_
    refine V_aload_n C dX3_save_29 (by rfl) ?_
    refine V_get C (ci := 3) (mput_eq _ _ _) rfl wu_X3 3 (by decide) fl_X3_24 rfl (by rfl) dX3_save_30 ?_
    refine V_aload_n C dX3_save_33 (by rfl) ?_
    refine V_get C (ci := 3) (mput_eq _ _ _) rfl wu_X3 4 (by decide) fl_X3_28 rfl (by rfl) dX3_save_34 ?_
    refine N_aldS C ((mput_ne n2x).trans hsf) hlt (by decide) (hsf2 _ hlt) dX3_save_37 ?_
    refine V_astore_n C dX3_save_38 (by decide) ?_
    refine V_aload_n C dX3_save_39 (by rfl) ?_
    refine V_aload_n C dX3_save_40 (by rfl) ?_
    refine V_get C (ci := 3) (mput_eq _ _ _) rfl wu_X3 5 (by decide) fl_X3_31 rfl (by rfl) dX3_save_41 ?_
    refine V_put C (ci := 1) ((mput_ne n6x).trans hs6) rfl wu_X1 0 (by decide) fl_X3_97 rfl tyX1 tyX1_ok nmX1 rfl (by rfl) (by rfl) (Nat.le_of_ble_eq_true rfl) dX3_save_44 ?_
    refine V_aload_n C dX3_save_47 (by rfl) ?_
    refine V_aload_n C dX3_save_48 (by rfl) ?_
    refine V_get C (ci := 3) ((mput_ne n6x.symm).trans (mput_eq _ _ _)) rfl wu_X3 2 (by decide) fl_X3_19 rfl (by rfl) dX3_save_49 ?_
    refine V_put C (ci := 1) (mput_eq _ _ _) rfl wu_X1 1 (by decide) fl_X3_98 rfl tyX1 tyX1_ok nmX1 rfl (by rfl) (by rfl) (Nat.le_of_ble_eq_true rfl) dX3_save_52 ?_
    refine V_aload_n C dX3_save_55 (by rfl) ?_
    refine V_aload_n C dX3_save_56 (by rfl) ?_
    refine V_get C (ci := 3) ((mput_ne n6x.symm).trans ((mput_ne n6x.symm).trans (mput_eq _ _ _))) rfl wu_X3 9 (by decide) fl_X3_46 rfl (by rfl) dX3_save_57 ?_
    refine V_put C (ci := 1) (mput_eq _ _ _) rfl wu_X1 2 (by decide) fl_X3_101 rfl tyX1 tyX1_ok nmX1 rfl (by rfl) (by rfl) (Nat.le_of_ble_eq_true rfl) dX3_save_60 ?_
    refine V_aload_n C dX3_save_63 (by rfl) ?_
    refine V_get C (ci := 3) ((mput_ne n6x.symm).trans ((mput_ne n6x.symm).trans ((mput_ne n6x.symm).trans (mput_eq _ _ _)))) rfl wu_X3 7 (by decide) fl_X3_37 rfl (by rfl) dX3_save_64 ?_
    refine V_iconst C (nI 0) dX3_save_67 (by decide) ?_
    refine V_aload_n C dX3_save_68 (by rfl) ?_
    refine V_get C (ci := 1) (mput_eq _ _ _) rfl wu_X1 3 (by decide) fl_X3_104 rfl (by rfl) dX3_save_69 ?_
    refine V_iconst C (nI 0) dX3_save_72 (by decide) ?_
    refine V_bipush C (nI 8) dX3_save_73 (by decide) ?_
    refine N_copy C ((mput_ne n36).trans ((mput_ne n36).trans ((mput_ne n36).trans ((mput_ne n3x).trans hp)))) ((mput_ne n67.symm).trans ((mput_ne n67.symm).trans ((mput_ne n67.symm).trans ((mput_ne n7x).trans hs7)))) ml_X3_105 (by decide) (by decide) (by decide) (by decide) (by decide) (by decide) dX3_save_75 ?_
    refine V_aload_n C dX3_save_78 (by rfl) ?_
    refine V_dup C dX3_save_79 rfl ?_
    refine V_get C (ci := 3) ((mput_ne n7x.symm).trans ((mput_ne n6x.symm).trans ((mput_ne n6x.symm).trans ((mput_ne n6x.symm).trans (mput_eq _ _ _))))) rfl wu_X3 4 (by decide) fl_X3_28 rfl (by rfl) dX3_save_80 ?_
    refine V_iconst C (1) dX3_save_83 (by decide) ?_
    refine V_iadd C dX3_save_84 ?_
    refine V_top (nI_1 _) ?_
    refine V_put C (ci := 3) ((mput_ne n7x.symm).trans ((mput_ne n6x.symm).trans ((mput_ne n6x.symm).trans ((mput_ne n6x.symm).trans (mput_eq _ _ _))))) rfl wu_X3 4 (by decide) fl_X3_28 rfl tyX3 tyX3_ok nmX3 rfl (by rfl) (by rfl) (Nat.le_of_ble_eq_true rfl) dX3_save_85 ?_
    refine V_aload_n C dX3_save_88 (by rfl) ?_
    refine V_aload_n C dX3_save_89 (by rfl) ?_
    refine V_get C (ci := 3) (mput_eq _ _ _) rfl wu_X3 6 (by decide) fl_X3_34 rfl (by rfl) dX3_save_90 ?_
    refine V_aload_n C dX3_save_93 (by rfl) ?_
    refine V_get C (ci := 3) (mput_eq _ _ _) rfl wu_X3 4 (by decide) fl_X3_28 rfl (by rfl) dX3_save_94 ?_
    refine V_mmax C ml_X3_111 st_max ini_Math co_max (by decide) (Nat.le_of_ble_eq_true rfl) (by decide) (by decide) dX3_save_97 ?_
    refine V_top (nI_max (by omega) (by omega)) ?_
    refine V_put C (ci := 3) (mput_eq _ _ _) rfl wu_X3 6 (by decide) fl_X3_34 rfl tyX3 tyX3_ok nmX3 rfl (by rfl) (by rfl) (Nat.le_of_ble_eq_true rfl) dX3_save_100 ?_
    refine V_aload_n C dX3_save_103 (by rfl) ?_
    refine V_get C (ci := 3) (mput_eq _ _ _) rfl wu_X3 5 (by decide) fl_X3_31 rfl (by rfl) dX3_save_104 ?_
    exact V_iret C hr (by decide) (by decide) dX3_save_107 (by
      rw [show oSave σ = (0, nI (gLast σ + 1), sSave σ) by unfold oSave; rw [if_neg (by omega)]; rfl]
      refine ⟨rfl, rfl, A, G, ob, saveC hC hI hlt hp2 (g := g) (fun a h1 h2 h3 => ?_) (mput_eq _ _ _) ?_ ?_, FrC.of (fun a ha => ?_)⟩
      · rw [mput_ne h1, mput_ne h1, mput_ne h3, mput_ne h2, mput_ne h2, mput_ne h2, mput_ne h1]
      · rw [mput_ne n6x, mput_ne n6x, mput_ne n67, mput_eq]; rfl
      · rw [mput_ne n7x, mput_ne n7x, mput_eq]
      · have h1 := ne_tag ha hG.1 (by decide)
        have h2 := ne_tag ha g6.1 (by omega)
        have h3 := ne_tag ha g6.2 (by omega)
        rw [mput_ne h1, mput_ne h1, mput_ne h3, mput_ne h2, mput_ne h2, mput_ne h2, mput_ne h1])
  · exact V_throw C hx rfl (E := "java/lang/UnsupportedOperationException") (by decide +kernel) cl_X3_50 ini_EU (List.mem_of_getElem? (i := 5) rfl) ea_U eg_U dX3_save_9 dX3_save_12 dX3_save_13 dX3_save_15 dX3_save_18 (by decide) (by decide) (by decide) (by decide) (by decide) (by decide) (by rw [show oSave σ = (1, 0, σ) by unfold oSave; rw [if_pos (by rcases Nat.lt_or_ge (gSv σ) 16 with h | h; exact absurd ((nI_ltI (by omega) (by decide)).mpr h) h6; omega)]]; exact ⟨Nat.zero_lt_succ _, rfl, rfl⟩)
