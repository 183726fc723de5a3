/-! the reference: isLive, restore -/
def lvT (σ : Sg) (n : Int32) (t : Nat) : Bool := (List.range t).any (fun k => decide (nI (gNum σ k) = n))
theorem lvT_s {σ : Sg} {n : Int32} {t : Nat} : lvT σ n (t + 1) = (lvT σ n t || decide (nI (gNum σ t) = n)) := by
  unfold lvT
  rw [List.range_succ, List.any_append]
  simp
theorem gnE_le {σ : Sg} {ob : Nat → Nat} {f : Nat} : ∀ p, gnE σ ob f p ≤ p := by
  intro p
  induction p with
  | zero => exact Nat.le_refl _
  | succ p ih => simp only [gnE]; split <;> omega
theorem goneC_le {σ : Sg} {ob : Nat → Nat} (hO : RepO ob σ) {f t : Nat} (h : f + t ≤ gMade σ) : goneC σ f t ≤ gAlive σ := by
  obtain ⟨p, h1, -, -, h4⟩ := cnt_enum hO f (f + t) h
  rw [cntO_gone] at h4
  have := gnE_le (σ := σ) (ob := ob) (f := f) p
  omega
theorem HM.cong {ct : Nat → ClassId} {B G : Nat → Nat} {σ σ' : Sg} {th : Int32} {M0 M : Mem} {mo : Nat} (h : HM ct B G M0 σ th M mo) (ha : arM σ' = arM σ) (hm : moL B σ' th = moL B σ th) : HM ct B G M0 σ' th M mo := by
  obtain ⟨⟨h1, h2, h4⟩, h5⟩ := h
  refine ⟨⟨by rw [hm]; exact h1, h2, ?_⟩, h5⟩
  rw [ha]; exact h4
/-- who is there when the objects f .. u - 1 have been seen -/
def thF (σ : Sg) (f u : Nat) : Nat → Nat := fun o => if f ≤ o ∧ o < u ∧ gGlob σ o = 0 then 0 else gThere σ o
theorem thF_0 (σ : Sg) (f : Nat) : thF σ f f = σ.1 2 := by
  funext o; unfold thF; rw [if_neg (by omega)]
theorem thF_at (σ : Sg) (f u : Nat) : thF σ f u u = gThere σ u := by unfold thF; rw [if_neg (by omega)]
theorem thF_s {σ : Sg} {f u : Nat} (h : gThere σ u = 0 ∨ ¬ gGlob σ u = 0) : thF σ f (u + 1) = thF σ f u := by
  funext o; unfold thF
  by_cases e : o = u
  · subst e
    rw [if_neg (show ¬ (f ≤ o ∧ o < o ∧ gGlob σ o = 0) by omega)]
    rcases h with h | h
    · rw [h]; split <;> rfl
    · rw [if_neg (fun g => h g.2.2)]
  · by_cases g : f ≤ o ∧ o < u ∧ gGlob σ o = 0
    · rw [if_pos g, if_pos ⟨g.1, by omega, g.2.2⟩]
    · rw [if_neg g, if_neg (fun q => g ⟨q.1, by omega, q.2.2⟩)]
theorem thF_p {σ : Sg} {f u : Nat} (hf : f ≤ u) (h : gGlob σ u = 0) (i : Nat) : va_up (nF (thF σ f u)) u 0 i = nF (thF σ f (u + 1)) i := by
  unfold nF
  by_cases e : i = u
  · subst e
    rw [va_up_self]
    unfold thF
    rw [if_pos ⟨hf, by omega, h⟩]
    exact nI_0.symm
  · rw [va_up_ne _ _ e]
    unfold thF
    by_cases g : f ≤ i ∧ i < u ∧ gGlob σ i = 0
    · rw [if_pos g, if_pos ⟨g.1, by omega, g.2.2⟩]
    · rw [if_neg g, if_neg (fun q => g ⟨q.1, by omega, q.2.2⟩)]
set_option maxHeartbeats 4000000 in
set_option maxRecDepth 100000 in
theorem m_isLive (l : Launch) (hl : l.stackTraces = false) (base : Nat) (D : va_G) (ct : Nat → ClassId) (sa : Nat → Nat) {B G : Nat → Nat} {σ : Sg} {th : Int32} {M : Mem} {mo K : Nat} (hR : RepM ct B G σ th M mo) (hI : Inv K σ) (hB : K < 600) (n : Int32) :
    CT l yX4_isLive (.code yX4_isLive cX4_isLive 4 (some .boolean) :: WL) (rmK 1 0 0) base D ct sa M [.ref mo, .int n] (fun v9 M' => v9 = some (.int (b2i (isLv σ n))) ∧ M' = M) noX := by
  refine CT.of hl (by decide) (Nat.le_of_ble_eq_true rfl) ?_
  intro p e s m below meth c C hr hx
  have hH : HM ct B G M σ th M mo := hR.hold
  obtain ⟨⟨i1, i2, i3, i4, i5, i6, i7, i8⟩, ⟨t1, t2, t3, t4⟩, ⟨s1, s2, s3, s4⟩, ⟨r1, r2, r3, r4, r5, r6⟩, ⟨v1, v2⟩, v3⟩ := id hI
  have loop : ∀ d t : Nat, gSv σ ≤ t + d → t ≤ gSv σ → VV p l e (rmK 1 0 0) s m ([.ref mo, .int n] : List Value).toArray below meth c 4 base D (QB base D (fun v9 M' => v9 = some (.int (b2i (isLv σ n))) ∧ M' = M) noX below ([.ref mo, .int n] : List Value).toArray s 0 0) M 0 0 4 [(0, .ref mo), (1, .int n), (2, .int (b2i (lvT σ n t))), (3, .int (nI t))] [] := by
    intro d
    induction d with
    | zero =>
      intro t h1 h2
      have htt : t = gSv σ := by omega
      refine V_iload_n C dX4_isLive_4 (by rfl) ?_
      refine V_aload_n C dX4_isLive_5 (by rfl) ?_
      refine V_get C (ci := 4) hH.1.1 rfl wu_X4 8 (by decide) fl_X4_64 rfl (by rfl) dX4_isLive_6 ?_
      refine V_icmp_ge C 38 dX4_isLive_9 (by decide) (fun h_9 => ?_) (fun h_9 => absurd h_9 (fun h => h ((nI_leI (by omega) (by omega)).mpr (by omega))))
      refine V_iload_n C dX4_isLive_38 (by rfl) ?_
      exact V_zret C hr (by cases lvT σ n t <;> rfl) (by decide) (by decide) dX4_isLive_39 ⟨by rw [htt]; rfl, rfl⟩
    | succ d ih =>
      intro t h1 h2
      rcases Nat.lt_or_ge t (gSv σ) with ht2 | ht2
      · refine V_iload_n C dX4_isLive_4 (by rfl) ?_
        refine V_aload_n C dX4_isLive_5 (by rfl) ?_
        refine V_get C (ci := 4) hH.1.1 rfl wu_X4 8 (by decide) fl_X4_64 rfl (by rfl) dX4_isLive_6 ?_
        refine V_icmp_ge C 38 dX4_isLive_9 (by decide) (fun h_9 => absurd h_9 (fun h => absurd ((nI_leI (by omega) (by omega)).mp h) (by omega))) (fun h_9 => ?_)
        refine V_iload_n C dX4_isLive_12 (by rfl) ?_
        refine V_if_ne C 26 dX4_isLive_13 (by decide) (fun h_13 => ?_) (fun h_13 => ?_)
        · have e9 : lvT σ n (t + 1) = true := by rw [lvT_s, b2i_1 h_13]; rfl
          refine V_iconst C 1 dX4_isLive_26 (by decide) ?_
          refine V_goto C 31 dX4_isLive_27 (by decide) ?_
          refine V_istore_n C dX4_isLive_31 (by decide) ?_
          refine V_inc1 C dX4_isLive_32 (by rfl) (by decide) ?_
          refine V_goto C 4 dX4_isLive_35 (by decide) ?_
          refine VV.loc [(0, .ref mo), (1, .int n), (2, .int (b2i (lvT σ n (t + 1)))), (3, .int (nI (t + 1)))] ⟨rfl, rfl, (by rw [e9]; rfl), (by rw [← nI_1]; rfl), trivial⟩ ?_
          exact ih (t + 1) (by omega) (by omega)
        · refine V_aload_n C dX4_isLive_16 (by rfl) ?_
          refine V_get C (ci := 4) hH.1.1 rfl wu_X4 11 (by decide) fl_X4_26 rfl (by rfl) dX4_isLive_17 ?_
          refine V_iload_n C dX4_isLive_20 (by rfl) ?_
          refine Y_ild C hH rfl (by omega) (by decide) dX4_isLive_21 ?_
          refine V_iload_n C dX4_isLive_22 (by rfl) ?_
          refine V_icmp_ne C 30 dX4_isLive_23 (by decide) (fun h_23 => ?_) (fun h_23 => ?_)
          · have e9 : lvT σ n (t + 1) = false := by rw [lvT_s, b2i_0 h_13, decide_eq_false (show ¬ nI (gNum σ t) = n from h_23)]; rfl
            refine V_iconst C 0 dX4_isLive_30 (by decide) ?_
            refine V_istore_n C dX4_isLive_31 (by decide) ?_
            refine V_inc1 C dX4_isLive_32 (by rfl) (by decide) ?_
            refine V_goto C 4 dX4_isLive_35 (by decide) ?_
            refine VV.loc [(0, .ref mo), (1, .int n), (2, .int (b2i (lvT σ n (t + 1)))), (3, .int (nI (t + 1)))] ⟨rfl, rfl, (by rw [e9]; rfl), (by rw [← nI_1]; rfl), trivial⟩ ?_
            exact ih (t + 1) (by omega) (by omega)
          · have e9 : lvT σ n (t + 1) = true := by rw [lvT_s, decide_eq_true (show nI (gNum σ t) = n from h_23), Bool.or_true]
            refine V_iconst C 1 dX4_isLive_26 (by decide) ?_
            refine V_goto C 31 dX4_isLive_27 (by decide) ?_
            refine V_istore_n C dX4_isLive_31 (by decide) ?_
            refine V_inc1 C dX4_isLive_32 (by rfl) (by decide) ?_
            refine V_goto C 4 dX4_isLive_35 (by decide) ?_
            refine VV.loc [(0, .ref mo), (1, .int n), (2, .int (b2i (lvT σ n (t + 1)))), (3, .int (nI (t + 1)))] ⟨rfl, rfl, (by rw [e9]; rfl), (by rw [← nI_1]; rfl), trivial⟩ ?_
            exact ih (t + 1) (by omega) (by omega)
      · exact ih t (by omega) h2
  refine V_iconst C (0) dX4_isLive_0 (by decide) ?_
  refine V_istore_n C dX4_isLive_1 (by decide) ?_
  refine V_iconst C (0) dX4_isLive_2 (by decide) ?_
  refine V_istore_n C dX4_isLive_3 (by decide) ?_
  refine VV.loc [(0, .ref mo), (1, .int n), (2, .int (b2i (lvT σ n 0))), (3, .int (nI 0))] ⟨rfl, rfl, rfl, rfl, trivial⟩ ?_
  exact loop (gSv σ) 0 (by omega) (Nat.zero_le _)
set_option maxHeartbeats 4000000 in
set_option maxRecDepth 100000 in
theorem m_restore (l : Launch) (hl : l.stackTraces = false) (base : Nat) (D : va_G) (ct : Nat → ClassId) (sa : Nat → Nat) {B G : Nat → Nat} {σ : Sg} {th : Int32} {M : Mem} {mo K : Nat} (hR : RepM ct B G σ th M mo) (hI : Inv K σ) (hB : K < 600) {ob : Nat → Nat} (hO : RepO ob σ) (n : Int32) :
    CT l yX4_restore (.code yX4_restore cX4_restore 4 (some .int) :: WL) (rmK 2 0 0) base D ct sa M [.ref mo, .int n] (PostM ct B G M mo (0, oRestore σ n)) noX := by
  refine CT.of hl (by decide) (Nat.le_of_ble_eq_true rfl) ?_
  intro p e s m below meth c C hr hx
  have hH : HM ct B G M σ th M mo := hR.hold
  obtain ⟨⟨i1, i2, i3, i4, i5, i6, i7, i8⟩, ⟨t1, t2, t3, t4⟩, ⟨s1, s2, s3, s4⟩, ⟨r1, r2, r3, r4, r5, r6⟩, ⟨v1, v2⟩, v3⟩ := id hI
  refine V_aload_n C dX4_restore_0 (by rfl) ?_
  refine V_iconst C (0) dX4_restore_1 (by decide) ?_
  refine Y_put C hH (σ) (0) 0 (by decide) fl_X4_50 rfl rfl (by rfl) (by rfl) (by rfl) rfl dX4_restore_2 (fun M1 hH => ?_)
  refine V_iload_n C dX4_restore_5 (by rfl) ?_
  refine V_iconst C (1) dX4_restore_6 (by decide) ?_
  refine V_icmp_lt C 18 dX4_restore_7 (by decide) (fun h_7 => ?_) (fun h_7 => ?_)
  · refine V_iconst C (-1) dX4_restore_18 (by decide) ?_
    exact V_iret C hr (by decide) (by decide) dX4_restore_19 (by rw [show oRestore σ n = (-1, σ) by unfold oRestore; rw [if_pos (Or.inl h_7)]]; exact ⟨rfl, hH⟩)
  · refine V_iload_n C dX4_restore_10 (by rfl) ?_
    refine V_aload_n C dX4_restore_11 (by rfl) ?_
    refine V_get C (ci := 4) hH.1.1 rfl wu_X4 9 (by decide) fl_X4_80 rfl (by rfl) dX4_restore_12 ?_
    refine V_icmp_le C 20 dX4_restore_15 (by decide) (fun h_15 => ?_) (fun h_15 => ?_)
    · have hrg : ¬ (n < 1 ∨ nI (gLast σ) < n) := by
        rintro (h | h)
        · exact h_7 h
        · exact absurd h_15 (Int32.not_le.mpr h)
      refine V_aload_n C dX4_restore_20 (by rfl) ?_
      refine V_iload_n C dX4_restore_21 (by rfl) ?_
      refine V_callV C hx (As := [.int n]) (m_isLive l hl base D ct sa hH.1 hI hB n) w_X4_89 hH.1.1 rfl rfl (by decide) (Nat.le_of_ble_eq_true rfl) ⟨by decide, by decide⟩ dX4_restore_22 (by decide) (by decide) (fun _ _ h => h) (fun v9 M9 hv9 => ?_)
      obtain ⟨rfl, rfl⟩ := hv9
      refine VV.eqv (st' := [.int (b2i (isLv σ n))]) rfl rfl ?_
      refine V_if_ne C 31 dX4_restore_25 (by decide) (fun h_25 => ?_) (fun h_25 => ?_)
      · have hlv := b2i_1 h_25
        have h0 : 0 < gSv σ := by
          obtain ⟨k, hk, -⟩ := List.any_eq_true.mp hlv
          have := List.mem_range.mp hk
          omega
        
        refine V_aload_n C dX4_restore_31 (by rfl) ?_
        refine V_get C (ci := 4) hH.1.1 rfl wu_X4 11 (by decide) fl_X4_26 rfl (by rfl) dX4_restore_32 ?_
        refine V_aload_n C dX4_restore_35 (by rfl) ?_
        refine V_get C (ci := 4) hH.1.1 rfl wu_X4 8 (by decide) fl_X4_64 rfl (by rfl) dX4_restore_36 ?_
        refine V_iconst C (1) dX4_restore_39 (by decide) ?_
        refine V_isub C dX4_restore_40 ?_
        refine V_top (show nI (gSv σ) - nI 1 = nI (gSv σ - 1) from pk_sub h0) ?_
        refine Y_ild C hH rfl (by omega) (by decide) dX4_restore_41 ?_
        refine V_iload_n C dX4_restore_42 (by rfl) ?_
        refine V_icmp_eq C 49 dX4_restore_43 (by decide) (fun h_43 => ?_) (fun h_43 => ?_)
        · have hlast : nI (gNum σ (gSv σ - 1)) = n := h_43
          refine V_aload_n C dX4_restore_49 (by rfl) ?_
          refine V_get C (ci := 4) hH.1.1 rfl wu_X4 8 (by decide) fl_X4_64 rfl (by rfl) dX4_restore_50 ?_
          refine V_iconst C (1) dX4_restore_53 (by decide) ?_
          refine V_isub C dX4_restore_54 ?_
          refine V_top (show nI (gSv σ) - nI 1 = nI (gSv σ - 1) from pk_sub h0) ?_
          refine V_istore_n C dX4_restore_55 (by decide) ?_
          refine V_aload_n C dX4_restore_56 (by rfl) ?_
          refine V_aload_n C dX4_restore_57 (by rfl) ?_
          refine V_get C (ci := 4) hH.1.1 rfl wu_X4 7 (by decide) fl_X4_23 rfl (by rfl) dX4_restore_58 ?_
          refine V_bipush C (nI 8) dX4_restore_61 (by decide) ?_
          refine Y_ild C hH rfl (by decide) (by decide) dX4_restore_63 ?_
          refine V_aload_n C dX4_restore_64 (by rfl) ?_
          refine V_get C (ci := 4) hH.1.1 rfl wu_X4 12 (by decide) fl_X4_29 rfl (by rfl) dX4_restore_65 ?_
          refine V_iload_n C dX4_restore_68 (by rfl) ?_
          refine Y_ild C hH rfl (show gSv σ - 1 < 16 by omega) (by decide) dX4_restore_69 ?_
          refine V_callV C hx (As := [.int (gPa σ 8), .int (nI (gFst σ (gSv σ - 1)))]) (m_isNewer l hl base D ct sa hH.1 hI hB (v := gPa σ 8) v1.1 (f := gFst σ (gSv σ - 1)) (by have := s3 (gSv σ - 1) (by omega); omega)) w_X4_92 hH.1.1 rfl rfl (by decide) (Nat.le_of_ble_eq_true rfl) ⟨by decide, by decide⟩ dX4_restore_70 (by decide) (by decide) (fun _ _ h => h) (fun v8 M8 hv8 => ?_)
          obtain ⟨rfl, rfl⟩ := hv8
          refine VV.eqv (st' := [.int (b2i (isNw σ (gPa σ 8) (gFst σ (gSv σ - 1))))]) rfl rfl ?_
          refine V_if_ne C 96 dX4_restore_73 (by decide) (fun h_73 => ?_) (fun h_73 => ?_)
          · have hnw : isNw σ (gPa σ 8) (gFst σ (gSv σ - 1)) = true ∨ isNw σ (gPa σ 9) (gFst σ (gSv σ - 1)) = true := Or.inl (b2i_1 h_73)
            refine V_bipush C (-4) dX4_restore_96 (by decide) ?_
            exact V_iret C hr (by decide) (by decide) dX4_restore_98 (by rw [show oRestore σ n = (-4, σ) by unfold oRestore; rw [if_neg hrg, if_neg (by rw [hlv]; simp), if_neg (fun h => h hlast), if_pos hnw]]; exact ⟨rfl, hH⟩)
          · refine V_aload_n C dX4_restore_76 (by rfl) ?_
            refine V_aload_n C dX4_restore_77 (by rfl) ?_
            refine V_get C (ci := 4) hH.1.1 rfl wu_X4 7 (by decide) fl_X4_23 rfl (by rfl) dX4_restore_78 ?_
            refine V_bipush C (nI 9) dX4_restore_81 (by decide) ?_
            refine Y_ild C hH rfl (by decide) (by decide) dX4_restore_83 ?_
            refine V_aload_n C dX4_restore_84 (by rfl) ?_
            refine V_get C (ci := 4) hH.1.1 rfl wu_X4 12 (by decide) fl_X4_29 rfl (by rfl) dX4_restore_85 ?_
            refine V_iload_n C dX4_restore_88 (by rfl) ?_
            refine Y_ild C hH rfl (show gSv σ - 1 < 16 by omega) (by decide) dX4_restore_89 ?_
            refine V_callV C hx (As := [.int (gPa σ 9), .int (nI (gFst σ (gSv σ - 1)))]) (m_isNewer l hl base D ct sa hH.1 hI hB (v := gPa σ 9) v1.2 (f := gFst σ (gSv σ - 1)) (by have := s3 (gSv σ - 1) (by omega); omega)) w_X4_92 hH.1.1 rfl rfl (by decide) (Nat.le_of_ble_eq_true rfl) ⟨by decide, by decide⟩ dX4_restore_90 (by decide) (by decide) (fun _ _ h => h) (fun v7 M7 hv7 => ?_)
            obtain ⟨rfl, rfl⟩ := hv7
            refine VV.eqv (st' := [.int (b2i (isNw σ (gPa σ 9) (gFst σ (gSv σ - 1))))]) rfl rfl ?_
            refine V_if_eq C 99 dX4_restore_93 (by decide) (fun h_93 => ?_) (fun h_93 => ?_)
            · have hnw : ¬ (isNw σ (gPa σ 8) (gFst σ (gSv σ - 1)) = true ∨ isNw σ (gPa σ 9) (gFst σ (gSv σ - 1)) = true) := by
                rw [b2i_0 h_73, b2i_0 h_93]; simp
              have hpl : ∀ t, gRb σ (gSv σ - 1) ≤ t → t < gRows σ → gPl σ t < 4800 := by
                intro t h1 h2
                have h3 := (v3 (gSv σ - 1) t (by omega) (by unfold rbx; rw [if_pos (by omega)]; exact h1) (by unfold rbx; rw [if_neg (by omega)]; exact h2)).1
                have h4 := s3 (gSv σ - 1) (by omega)
                omega
              have hok : oRestore σ n = (1, sf (sw (sf (sf (sf (sf (sw σ 0 (undo σ (gRb σ (gSv σ - 1)) (gRows σ - gRb σ (gSv σ - 1)))) 11 (sk (gRb σ (gSv σ - 1)))) 13 (sk (gSb σ (gSv σ - 1)))) 2 (thF σ (gFst σ (gSv σ - 1)) (gMade σ))) 1 (sk (gAlive σ - goneC σ (gFst σ (gSv σ - 1)) ((gMade σ) - gFst σ (gSv σ - 1))))) 2 (va_cpy (σ.2 3) (σ.2 2) (10 * (gSv σ - 1)) 0 8)) 4 (sk (gSv σ - 1))) := by
                unfold oRestore
                rw [if_neg hrg, if_neg (by rw [hlv]; simp), if_neg (fun h => h hlast), if_neg hnw]
                rfl
              have loop3 : ∀ d u : Nat, 8 ≤ u + d → u ≤ 8 → 0 ≤ u → ∀ M1 : Mem, HM ct B G M (sw (sf (sf (sf (sf (sw σ 0 (undo σ (gRb σ (gSv σ - 1)) (gRows σ - gRb σ (gSv σ - 1)))) 11 (sk (gRb σ (gSv σ - 1)))) 13 (sk (gSb σ (gSv σ - 1)))) 2 (thF σ (gFst σ (gSv σ - 1)) (gMade σ))) 1 (sk (gAlive σ - goneC σ (gFst σ (gSv σ - 1)) ((gMade σ) - gFst σ (gSv σ - 1))))) 2 (va_cpy (σ.2 3) (σ.2 2) (10 * (gSv σ - 1)) 0 u)) 0 M1 mo → VV p l e (rmK 2 0 0) s m ([.ref mo, .int n] : List Value).toArray below meth c 4 base D (QB base D (PostM ct B G M mo (0, oRestore σ n)) noX below ([.ref mo, .int n] : List Value).toArray s 0 0) M1 0 0 215 [(0, .ref mo), (1, .int n), (2, .int (nI (gSv σ - 1))), (3, .int (nI u))] [] := by
                intro d
                induction d with
                | zero =>
                  intro u h1 h2 h3 M1 hH
                  have huu : u = 8 := by omega
                  subst huu
                  refine V_iload_n C dX4_restore_215 (by rfl) ?_
                  refine V_bipush C (nI 8) dX4_restore_216 (by decide) ?_
                  refine V_icmp_ge C 244 dX4_restore_218 (by decide) (fun h_218 => ?_) (fun h_218 => absurd h_218 (fun h => h (Int32.le_refl _)))
                  refine V_aload_n C dX4_restore_244 (by rfl) ?_
                  refine V_iload_n C dX4_restore_245 (by rfl) ?_
                  refine Y_put C hH (sf (sw (sf (sf (sf (sf (sw σ 0 (undo σ (gRb σ (gSv σ - 1)) (gRows σ - gRb σ (gSv σ - 1)))) 11 (sk (gRb σ (gSv σ - 1)))) 13 (sk (gSb σ (gSv σ - 1)))) 2 (thF σ (gFst σ (gSv σ - 1)) (gMade σ))) 1 (sk (gAlive σ - goneC σ (gFst σ (gSv σ - 1)) ((gMade σ) - gFst σ (gSv σ - 1))))) 2 (va_cpy (σ.2 3) (σ.2 2) (10 * (gSv σ - 1)) 0 8)) 4 (sk (gSv σ - 1))) (0) 8 (by decide) fl_X4_64 rfl rfl (by rfl) (by rfl) (by rfl) os_4 dX4_restore_246 (fun M1 hH => ?_)
                  refine V_iconst C (1) dX4_restore_249 (by decide) ?_
                  exact V_iret C hr (by decide) (by decide) dX4_restore_250 (by rw [hok]; exact ⟨rfl, hH⟩)
                | succ d ih =>
                  intro u h1 h2 h3 M1 hH
                  rcases Nat.lt_or_ge u (8) with hu | hu
                  · refine V_iload_n C dX4_restore_215 (by rfl) ?_
                    refine V_bipush C (nI 8) dX4_restore_216 (by decide) ?_
                    refine V_icmp_ge C 244 dX4_restore_218 (by decide) (fun h_218 => absurd h_218 (fun h => absurd ((nI_leI (by omega) (by omega)).mp h) (by omega))) (fun h_218 => ?_)
                    refine V_aload_n C dX4_restore_221 (by rfl) ?_
                    refine V_get C (ci := 4) hH.1.1 rfl wu_X4 7 (by decide) fl_X4_23 rfl (by rfl) dX4_restore_222 ?_
                    refine V_iload_n C dX4_restore_225 (by rfl) ?_
                    refine V_aload_n C dX4_restore_226 (by rfl) ?_
                    refine V_get C (ci := 4) hH.1.1 rfl wu_X4 15 (by decide) fl_X4_38 rfl (by rfl) dX4_restore_227 ?_
                    refine V_bipush C (nI 10) dX4_restore_230 (by decide) ?_
                    refine V_iload_n C dX4_restore_232 (by rfl) ?_
                    refine V_imul C dX4_restore_233 ?_
                    refine V_iload_n C dX4_restore_234 (by rfl) ?_
                    refine V_iadd C dX4_restore_235 ?_
                    refine V_top (y := nI (10 * (gSv σ - 1) + u)) (by rw [pk_mul, nI_add]) ?_
                    refine Y_ild C hH rfl (by omega) (by decide) dX4_restore_236 ?_
                    refine Y_ist C hH (sw (sf (sf (sf (sf (sw σ 0 (undo σ (gRb σ (gSv σ - 1)) (gRows σ - gRb σ (gSv σ - 1)))) 11 (sk (gRb σ (gSv σ - 1)))) 13 (sk (gSb σ (gSv σ - 1)))) 2 (thF σ (gFst σ (gSv σ - 1)) (gMade σ))) 1 (sk (gAlive σ - goneC σ (gFst σ (gSv σ - 1)) ((gMade σ) - gFst σ (gSv σ - 1))))) 2 (va_cpy (σ.2 3) (σ.2 2) (10 * (gSv σ - 1)) 0 (u + 1))) rfl (show u < 10 by omega) (by decide) rfl (fun i _ => by have h := cpy_s (g := σ.2 2) (dp := 0) (show σ.2 3 (10 * (gSv σ - 1) + u) = σ.2 3 (10 * (gSv σ - 1) + u) from rfl) i; rw [Nat.zero_add] at h; exact h) (fun q h => (ho_7 q h).trans (ho_7 q h).symm) (fun _ => rfl) dX4_restore_237 (fun M1 hH => ?_)
                    refine V_inc1 C dX4_restore_238 (by rfl) (by decide) ?_
                    refine V_goto C 215 dX4_restore_241 (by decide) ?_
                    refine VV.loc [(0, .ref mo), (1, .int n), (2, .int (nI (gSv σ - 1))), (3, .int (nI (u + 1)))] ⟨rfl, rfl, rfl, (by rw [← nI_1]; rfl), trivial⟩ ?_
                    exact ih (u + 1) (by omega) (by omega) (by omega) M1 hH
                  · exact ih u (by omega) h2 h3 M1 hH
              have loop2 : ∀ d u : Nat, gMade σ ≤ u + d → u ≤ gMade σ → gFst σ (gSv σ - 1) ≤ u → ∀ M1 : Mem, HM ct B G M (sf (sf (sf (sf (sw σ 0 (undo σ (gRb σ (gSv σ - 1)) (gRows σ - gRb σ (gSv σ - 1)))) 11 (sk (gRb σ (gSv σ - 1)))) 13 (sk (gSb σ (gSv σ - 1)))) 2 (thF σ (gFst σ (gSv σ - 1)) u)) 1 (sk (gAlive σ - goneC σ (gFst σ (gSv σ - 1)) (u - gFst σ (gSv σ - 1))))) 0 M1 mo → VV p l e (rmK 2 0 0) s m ([.ref mo, .int n] : List Value).toArray below meth c 4 base D (QB base D (PostM ct B G M mo (0, oRestore σ n)) noX below ([.ref mo, .int n] : List Value).toArray s 0 0) M1 0 0 164 [(0, .ref mo), (1, .int n), (2, .int (nI (gSv σ - 1))), (3, .int (nI u))] [] := by
                intro d
                induction d with
                | zero =>
                  intro u h1 h2 h3 M1 hH
                  have huu : u = gMade σ := by omega
                  subst huu
                  refine V_iload_n C dX4_restore_164 (by rfl) ?_
                  refine V_aload_n C dX4_restore_165 (by rfl) ?_
                  refine V_get C (ci := 4) hH.1.1 rfl wu_X4 1 (by decide) fl_X4_54 rfl (by rfl) dX4_restore_166 ?_
                  refine V_icmp_ge C 213 dX4_restore_169 (by decide) (fun h_169 => ?_) (fun h_169 => absurd h_169 (fun h => h (Int32.le_refl _)))
                  refine V_iconst C (0) dX4_restore_213 (by decide) ?_
                  refine V_istore_n C dX4_restore_214 (by decide) ?_
                  refine VV.loc [(0, .ref mo), (1, .int n), (2, .int (nI (gSv σ - 1))), (3, .int (nI 0))] ⟨rfl, rfl, rfl, rfl, trivial⟩ ?_
                  exact loop3 8 0 (by omega) (by omega) (by omega) M1 (hH.eq (show sf (sf (sf (sf (sw σ 0 (undo σ (gRb σ (gSv σ - 1)) (gRows σ - gRb σ (gSv σ - 1)))) 11 (sk (gRb σ (gSv σ - 1)))) 13 (sk (gSb σ (gSv σ - 1)))) 2 (thF σ (gFst σ (gSv σ - 1)) (gMade σ))) 1 (sk (gAlive σ - goneC σ (gFst σ (gSv σ - 1)) ((gMade σ) - gFst σ (gSv σ - 1)))) = sw (sf (sf (sf (sf (sw σ 0 (undo σ (gRb σ (gSv σ - 1)) (gRows σ - gRb σ (gSv σ - 1)))) 11 (sk (gRb σ (gSv σ - 1)))) 13 (sk (gSb σ (gSv σ - 1)))) 2 (thF σ (gFst σ (gSv σ - 1)) (gMade σ))) 1 (sk (gAlive σ - goneC σ (gFst σ (gSv σ - 1)) ((gMade σ) - gFst σ (gSv σ - 1))))) 2 (va_cpy (σ.2 3) (σ.2 2) (10 * (gSv σ - 1)) 0 0) by rw [cpy_0]; exact (sw_id (sf (sf (sf (sf (sw σ 0 (undo σ (gRb σ (gSv σ - 1)) (gRows σ - gRb σ (gSv σ - 1)))) 11 (sk (gRb σ (gSv σ - 1)))) 13 (sk (gSb σ (gSv σ - 1)))) 2 (thF σ (gFst σ (gSv σ - 1)) (gMade σ))) 1 (sk (gAlive σ - goneC σ (gFst σ (gSv σ - 1)) ((gMade σ) - gFst σ (gSv σ - 1))))) 2).symm))
                | succ d ih =>
                  intro u h1 h2 h3 M1 hH
                  rcases Nat.lt_or_ge u (gMade σ) with hu | hu
                  · refine V_iload_n C dX4_restore_164 (by rfl) ?_
                    refine V_aload_n C dX4_restore_165 (by rfl) ?_
                    refine V_get C (ci := 4) hH.1.1 rfl wu_X4 1 (by decide) fl_X4_54 rfl (by rfl) dX4_restore_166 ?_
                    refine V_icmp_ge C 213 dX4_restore_169 (by decide) (fun h_169 => absurd h_169 (fun h => absurd ((nI_leI (show gMade σ < 2 ^ 31 by omega) (by omega)).mp h) (by omega))) (fun h_169 => ?_)
                    refine V_aload_n C dX4_restore_172 (by rfl) ?_
                    refine V_get C (ci := 4) hH.1.1 rfl wu_X4 3 (by decide) fl_X4_7 rfl (by rfl) dX4_restore_173 ?_
                    refine V_iload_n C dX4_restore_176 (by rfl) ?_
                    refine Y_zld C hH rfl (by omega) (by decide) dX4_restore_177 ?_
                    refine V_top (y := nI (gThere σ u)) (show nI (thF σ (gFst σ (gSv σ - 1)) u u) = _ by rw [thF_at]) ?_
                    refine V_if_eq C 207 dX4_restore_178 (by decide) (fun h_178 => ?_) (fun h_178 => ?_)
                    · have e0 := (nI_b (t1 u)).1 h_178
                      have e1 : sf (sf (sf (sf (sw σ 0 (undo σ (gRb σ (gSv σ - 1)) (gRows σ - gRb σ (gSv σ - 1)))) 11 (sk (gRb σ (gSv σ - 1)))) 13 (sk (gSb σ (gSv σ - 1)))) 2 (thF σ (gFst σ (gSv σ - 1)) (u + 1))) 1 (sk (gAlive σ - goneC σ (gFst σ (gSv σ - 1)) ((u + 1) - gFst σ (gSv σ - 1)))) = sf (sf (sf (sf (sw σ 0 (undo σ (gRb σ (gSv σ - 1)) (gRows σ - gRb σ (gSv σ - 1)))) 11 (sk (gRb σ (gSv σ - 1)))) 13 (sk (gSb σ (gSv σ - 1)))) 2 (thF σ (gFst σ (gSv σ - 1)) u)) 1 (sk (gAlive σ - goneC σ (gFst σ (gSv σ - 1)) (u - gFst σ (gSv σ - 1)))) := by
                        rw [show u + 1 - gFst σ (gSv σ - 1) = (u - gFst σ (gSv σ - 1)) + 1 by omega, thF_s (Or.inl e0)]
                        simp only [goneC]
                        rw [show gFst σ (gSv σ - 1) + (u - gFst σ (gSv σ - 1)) = u by omega, if_neg (fun h => absurd h.1 (by omega)), Nat.add_zero]
                      refine V_inc1 C dX4_restore_207 (by rfl) (by decide) ?_
                      refine V_goto C 164 dX4_restore_210 (by decide) ?_
                      refine VV.loc [(0, .ref mo), (1, .int n), (2, .int (nI (gSv σ - 1))), (3, .int (nI (u + 1)))] ⟨rfl, rfl, rfl, (by rw [← nI_1]; rfl), trivial⟩ ?_
                      exact ih (u + 1) (by omega) (by omega) (by omega) M1 (hH.eq e1.symm)
                    · have e0 : gThere σ u = 1 := (nI_b (t1 u)).2 h_178
                      refine V_aload_n C dX4_restore_181 (by rfl) ?_
                      refine V_get C (ci := 4) hH.1.1 rfl wu_X4 4 (by decide) fl_X4_13 rfl (by rfl) dX4_restore_182 ?_
                      refine V_iload_n C dX4_restore_185 (by rfl) ?_
                      refine Y_zld C hH rfl (by omega) (by decide) dX4_restore_186 ?_
                      refine V_if_ne C 207 dX4_restore_187 (by decide) (fun h_187 => ?_) (fun h_187 => ?_)
                      · have e2 : gGlob σ u = 1 := (nI_b (t2 u)).2 h_187
                        have e1 : sf (sf (sf (sf (sw σ 0 (undo σ (gRb σ (gSv σ - 1)) (gRows σ - gRb σ (gSv σ - 1)))) 11 (sk (gRb σ (gSv σ - 1)))) 13 (sk (gSb σ (gSv σ - 1)))) 2 (thF σ (gFst σ (gSv σ - 1)) (u + 1))) 1 (sk (gAlive σ - goneC σ (gFst σ (gSv σ - 1)) ((u + 1) - gFst σ (gSv σ - 1)))) = sf (sf (sf (sf (sw σ 0 (undo σ (gRb σ (gSv σ - 1)) (gRows σ - gRb σ (gSv σ - 1)))) 11 (sk (gRb σ (gSv σ - 1)))) 13 (sk (gSb σ (gSv σ - 1)))) 2 (thF σ (gFst σ (gSv σ - 1)) u)) 1 (sk (gAlive σ - goneC σ (gFst σ (gSv σ - 1)) (u - gFst σ (gSv σ - 1)))) := by
                          rw [show u + 1 - gFst σ (gSv σ - 1) = (u - gFst σ (gSv σ - 1)) + 1 by omega, thF_s (Or.inr (by omega))]
                          simp only [goneC]
                          rw [show gFst σ (gSv σ - 1) + (u - gFst σ (gSv σ - 1)) = u by omega, if_neg (fun h => absurd h.2 (by omega)), Nat.add_zero]
                        refine V_inc1 C dX4_restore_207 (by rfl) (by decide) ?_
                        refine V_goto C 164 dX4_restore_210 (by decide) ?_
                        refine VV.loc [(0, .ref mo), (1, .int n), (2, .int (nI (gSv σ - 1))), (3, .int (nI (u + 1)))] ⟨rfl, rfl, rfl, (by rw [← nI_1]; rfl), trivial⟩ ?_
                        exact ih (u + 1) (by omega) (by omega) (by omega) M1 (hH.eq e1.symm)
                      · have e2 : gGlob σ u = 0 := (nI_b (t2 u)).1 h_187
                        have e3 : goneC σ (gFst σ (gSv σ - 1)) (u + 1 - gFst σ (gSv σ - 1)) = goneC σ (gFst σ (gSv σ - 1)) (u - gFst σ (gSv σ - 1)) + 1 := by
                          rw [show u + 1 - gFst σ (gSv σ - 1) = (u - gFst σ (gSv σ - 1)) + 1 by omega]
                          simp only [goneC]
                          rw [show gFst σ (gSv σ - 1) + (u - gFst σ (gSv σ - 1)) = u by omega, if_pos ⟨e0, e2⟩]
                        have e4 := goneC_le hO (f := gFst σ (gSv σ - 1)) (t := u + 1 - gFst σ (gSv σ - 1)) (by omega)
                        refine V_aload_n C dX4_restore_190 (by rfl) ?_
                        refine V_get C (ci := 4) hH.1.1 rfl wu_X4 3 (by decide) fl_X4_7 rfl (by rfl) dX4_restore_191 ?_
                        refine V_iload_n C dX4_restore_194 (by rfl) ?_
                        refine V_iconst C (0) dX4_restore_195 (by decide) ?_
                        refine Y_zst C hH (sf (sf (sf (sf (sw σ 0 (undo σ (gRb σ (gSv σ - 1)) (gRows σ - gRb σ (gSv σ - 1)))) 11 (sk (gRb σ (gSv σ - 1)))) 13 (sk (gSb σ (gSv σ - 1)))) 2 (thF σ (gFst σ (gSv σ - 1)) (u + 1))) 1 (sk (gAlive σ - goneC σ (gFst σ (gSv σ - 1)) (u - gFst σ (gSv σ - 1))))) rfl (by omega) (by decide) rfl (fun i _ => thF_p h3 e2 i) (by intro q h; unfold arM; split <;> first | rfl | exact absurd rfl h) (fun _ => rfl) dX4_restore_196 (fun M1 hH => ?_)
                        refine V_aload_n C dX4_restore_197 (by rfl) ?_
                        refine V_dup C dX4_restore_198 rfl ?_
                        refine V_get C (ci := 4) hH.1.1 rfl wu_X4 2 (by decide) fl_X4_61 rfl (by rfl) dX4_restore_199 ?_
                        refine V_iconst C (1) dX4_restore_202 (by decide) ?_
                        refine V_isub C dX4_restore_203 ?_
                        refine V_top (show nI (gAlive σ - goneC σ (gFst σ (gSv σ - 1)) (u - gFst σ (gSv σ - 1))) - nI 1 = nI (gAlive σ - goneC σ (gFst σ (gSv σ - 1)) (u + 1 - gFst σ (gSv σ - 1))) by rw [pk_sub (by omega), e3]; congr 1) ?_
                        refine Y_put C hH (sf (sf (sf (sf (sw σ 0 (undo σ (gRb σ (gSv σ - 1)) (gRows σ - gRb σ (gSv σ - 1)))) 11 (sk (gRb σ (gSv σ - 1)))) 13 (sk (gSb σ (gSv σ - 1)))) 2 (thF σ (gFst σ (gSv σ - 1)) (u + 1))) 1 (sk (gAlive σ - goneC σ (gFst σ (gSv σ - 1)) ((u + 1) - gFst σ (gSv σ - 1))))) (0) 2 (by decide) fl_X4_61 rfl rfl (by rfl) (by rfl) (by rfl) (by funext q; unfold arM; split <;> rfl) dX4_restore_204 (fun M1 hH => ?_)
                        refine V_inc1 C dX4_restore_207 (by rfl) (by decide) ?_
                        refine V_goto C 164 dX4_restore_210 (by decide) ?_
                        refine VV.loc [(0, .ref mo), (1, .int n), (2, .int (nI (gSv σ - 1))), (3, .int (nI (u + 1)))] ⟨rfl, rfl, rfl, (by rw [← nI_1]; rfl), trivial⟩ ?_
                        exact ih (u + 1) (by omega) (by omega) (by omega) M1 hH
                  · exact ih u (by omega) h2 h3 M1 hH
              have loop1 : ∀ d u : Nat, gRows σ ≤ u + d → u ≤ gRows σ → gRb σ (gSv σ - 1) ≤ u → ∀ M1 : Mem, HM ct B G M (sw σ 0 (undo σ (gRb σ (gSv σ - 1)) (u - gRb σ (gSv σ - 1)))) 0 M1 mo → VV p l e (rmK 2 0 0) s m ([.ref mo, .int n] : List Value).toArray below meth c 4 base D (QB base D (PostM ct B G M mo (0, oRestore σ n)) noX below ([.ref mo, .int n] : List Value).toArray s 0 0) M1 0 0 106 [(0, .ref mo), (1, .int n), (2, .int (nI (gSv σ - 1))), (3, .int (nI u))] [] := by
                intro d
                induction d with
                | zero =>
                  intro u h1 h2 h3 M1 hH
                  have huu : u = gRows σ := by omega
                  subst huu
                  refine V_iload_n C dX4_restore_106 (by rfl) ?_
                  refine V_aload_n C dX4_restore_107 (by rfl) ?_
                  refine V_get C (ci := 4) hH.1.1 rfl wu_X4 16 (by decide) fl_X4_67 rfl (by rfl) dX4_restore_108 ?_
                  refine V_icmp_ge C 137 dX4_restore_111 (by decide) (fun h_111 => ?_) (fun h_111 => absurd h_111 (fun h => h (Int32.le_refl _)))
                  refine V_aload_n C dX4_restore_137 (by rfl) ?_
                  refine V_aload_n C dX4_restore_138 (by rfl) ?_
                  refine V_get C (ci := 4) hH.1.1 rfl wu_X4 13 (by decide) fl_X4_32 rfl (by rfl) dX4_restore_139 ?_
                  refine V_iload_n C dX4_restore_142 (by rfl) ?_
                  refine Y_ild C hH rfl (show gSv σ - 1 < 16 by omega) (by decide) dX4_restore_143 ?_
                  refine Y_put C hH (sf (sw σ 0 (undo σ (gRb σ (gSv σ - 1)) (gRows σ - gRb σ (gSv σ - 1)))) 11 (sk (gRb σ (gSv σ - 1)))) (0) 16 (by decide) fl_X4_67 rfl rfl (by rfl) (by rfl) (by rfl) os_11 dX4_restore_144 (fun M1 hH => ?_)
                  refine V_aload_n C dX4_restore_147 (by rfl) ?_
                  refine V_aload_n C dX4_restore_148 (by rfl) ?_
                  refine V_get C (ci := 4) hH.1.1 rfl wu_X4 14 (by decide) fl_X4_35 rfl (by rfl) dX4_restore_149 ?_
                  refine V_iload_n C dX4_restore_152 (by rfl) ?_
                  refine Y_ild C hH rfl (show gSv σ - 1 < 16 by omega) (by decide) dX4_restore_153 ?_
                  refine Y_put C hH (sf (sf (sw σ 0 (undo σ (gRb σ (gSv σ - 1)) (gRows σ - gRb σ (gSv σ - 1)))) 11 (sk (gRb σ (gSv σ - 1)))) 13 (sk (gSb σ (gSv σ - 1)))) (0) 19 (by decide) fl_X4_83 rfl rfl (by rfl) (by rfl) (by rfl) os_13 dX4_restore_154 (fun M1 hH => ?_)
                  refine V_aload_n C dX4_restore_157 (by rfl) ?_
                  refine V_get C (ci := 4) hH.1.1 rfl wu_X4 12 (by decide) fl_X4_29 rfl (by rfl) dX4_restore_158 ?_
                  refine V_iload_n C dX4_restore_161 (by rfl) ?_
                  refine Y_ild C hH rfl (show gSv σ - 1 < 16 by omega) (by decide) dX4_restore_162 ?_
                  refine V_istore_n C dX4_restore_163 (by decide) ?_
                  refine VV.loc [(0, .ref mo), (1, .int n), (2, .int (nI (gSv σ - 1))), (3, .int (nI (gFst σ (gSv σ - 1))))] ⟨rfl, rfl, rfl, rfl, trivial⟩ ?_
                  exact loop2 (gMade σ) (gFst σ (gSv σ - 1)) (by omega) (s3 (gSv σ - 1) (by omega)) (Nat.le_refl _) M1 (hH.cong (by funext q; unfold arM; split <;> first | rfl | (show some (1, 600, nF (thF σ (gFst σ (gSv σ - 1)) (gFst σ (gSv σ - 1)))) = _; rw [thF_0]; rfl)) (show _ = _ by rw [show gFst σ (gSv σ - 1) - gFst σ (gSv σ - 1) = 0 by omega]; rfl))
                | succ d ih =>
                  intro u h1 h2 h3 M1 hH
                  rcases Nat.lt_or_ge u (gRows σ) with hu | hu
                  · refine V_iload_n C dX4_restore_106 (by rfl) ?_
                    refine V_aload_n C dX4_restore_107 (by rfl) ?_
                    refine V_get C (ci := 4) hH.1.1 rfl wu_X4 16 (by decide) fl_X4_67 rfl (by rfl) dX4_restore_108 ?_
                    refine V_icmp_ge C 137 dX4_restore_111 (by decide) (fun h_111 => absurd h_111 (fun h => absurd ((nI_leI (show gRows σ < 2 ^ 31 by omega) (by omega)).mp h) (by omega))) (fun h_111 => ?_)
                    refine V_aload_n C dX4_restore_114 (by rfl) ?_
                    refine V_get C (ci := 4) hH.1.1 rfl wu_X4 5 (by decide) fl_X4_16 rfl (by rfl) dX4_restore_115 ?_
                    refine V_aload_n C dX4_restore_118 (by rfl) ?_
                    refine V_get C (ci := 4) hH.1.1 rfl wu_X4 17 (by decide) fl_X4_41 rfl (by rfl) dX4_restore_119 ?_
                    refine V_iload_n C dX4_restore_122 (by rfl) ?_
                    refine Y_ild C hH rfl (by omega) (by decide) dX4_restore_123 ?_
                    refine V_aload_n C dX4_restore_124 (by rfl) ?_
                    refine V_get C (ci := 4) hH.1.1 rfl wu_X4 18 (by decide) fl_X4_44 rfl (by rfl) dX4_restore_125 ?_
                    refine V_iload_n C dX4_restore_128 (by rfl) ?_
                    refine Y_ild C hH rfl (by omega) (by decide) dX4_restore_129 ?_
                    refine Y_ist C hH (sw σ 0 (undo σ (gRb σ (gSv σ - 1)) ((u + 1) - gRb σ (gSv σ - 1)))) rfl (show gPl σ u < 4800 from hpl u h3 hu) (by decide) rfl (fun i _ => by rw [show u + 1 - gRb σ (gSv σ - 1) = (u - gRb σ (gSv σ - 1)) + 1 by omega]; show va_up _ (gPl σ u) (gVal σ u) i = va_up (undo σ (gRb σ (gSv σ - 1)) (u - gRb σ (gSv σ - 1))) (gPl σ (gRb σ (gSv σ - 1) + (u - gRb σ (gSv σ - 1)))) (gVal σ (gRb σ (gSv σ - 1) + (u - gRb σ (gSv σ - 1)))) i; rw [show gRb σ (gSv σ - 1) + (u - gRb σ (gSv σ - 1)) = u by omega]; rfl) (fun q h => (ho_5 q h).trans (ho_5 q h).symm) (fun _ => rfl) dX4_restore_130 (fun M1 hH => ?_)
                    refine V_inc1 C dX4_restore_131 (by rfl) (by decide) ?_
                    refine V_goto C 106 dX4_restore_134 (by decide) ?_
                    refine VV.loc [(0, .ref mo), (1, .int n), (2, .int (nI (gSv σ - 1))), (3, .int (nI (u + 1)))] ⟨rfl, rfl, rfl, (by rw [← nI_1]; rfl), trivial⟩ ?_
                    exact ih (u + 1) (by omega) (by omega) (by omega) M1 hH
                  · exact ih u (by omega) h2 h3 M1 hH
              refine V_aload_n C dX4_restore_99 (by rfl) ?_
              refine V_get C (ci := 4) hH.1.1 rfl wu_X4 13 (by decide) fl_X4_32 rfl (by rfl) dX4_restore_100 ?_
              refine V_iload_n C dX4_restore_103 (by rfl) ?_
              refine Y_ild C hH rfl (show gSv σ - 1 < 16 by omega) (by decide) dX4_restore_104 ?_
              refine V_istore_n C dX4_restore_105 (by decide) ?_
              refine VV.loc [(0, .ref mo), (1, .int n), (2, .int (nI (gSv σ - 1))), (3, .int (nI (gRb σ (gSv σ - 1))))] ⟨rfl, rfl, rfl, rfl, trivial⟩ ?_
              exact loop1 (gRows σ) (gRb σ (gSv σ - 1)) (by omega) (r1 (gSv σ - 1) (by omega)) (Nat.le_refl _) M7 (hH.eq (show σ = sw σ 0 (undo σ (gRb σ (gSv σ - 1)) (gRb σ (gSv σ - 1) - gRb σ (gSv σ - 1))) by rw [Nat.sub_self]; exact (sw_id σ 0).symm))
            · have hnw : isNw σ (gPa σ 8) (gFst σ (gSv σ - 1)) = true ∨ isNw σ (gPa σ 9) (gFst σ (gSv σ - 1)) = true := Or.inr (b2i_1 h_93)
              refine V_bipush C (-4) dX4_restore_96 (by decide) ?_
              exact V_iret C hr (by decide) (by decide) dX4_restore_98 (by rw [show oRestore σ n = (-4, σ) by unfold oRestore; rw [if_neg hrg, if_neg (by rw [hlv]; simp), if_neg (fun h => h hlast), if_pos hnw]]; exact ⟨rfl, hH⟩)
        · refine V_bipush C (-3) dX4_restore_46 (by decide) ?_
          exact V_iret C hr (by decide) (by decide) dX4_restore_48 (by rw [show oRestore σ n = (-3, σ) by unfold oRestore; rw [if_neg hrg, if_neg (by rw [hlv]; simp), if_pos (show nI (gNum σ (gSv σ - 1)) ≠ n from h_43)]]; exact ⟨rfl, hH⟩)
      · have hlv := b2i_0 h_25
        refine V_bipush C (-2) dX4_restore_28 (by decide) ?_
        exact V_iret C hr (by decide) (by decide) dX4_restore_30 (by rw [show oRestore σ n = (-2, σ) by unfold oRestore; rw [if_neg hrg, if_pos hlv]]; exact ⟨rfl, hH⟩)
    · refine V_iconst C (-1) dX4_restore_18 (by decide) ?_
      exact V_iret C hr (by decide) (by decide) dX4_restore_19 (by rw [show oRestore σ n = (-1, σ) by unfold oRestore; rw [if_pos (Or.inr (Int32.not_le.mp h_15))]]; exact ⟨rfl, hH⟩)
