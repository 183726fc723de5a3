/-! the reference: keep, put -/
theorem hasR_0 (σ : Sg) (lo c : Nat) : hasR σ lo lo c = false := by
  rw [Bool.eq_false_iff]
  intro h
  obtain ⟨r, h1, h2, -⟩ := hasR_iff.mp h
  omega
theorem hasR_s {σ : Sg} {lo t c : Nat} (h : lo ≤ t) : hasR σ lo (t + 1) c = (hasR σ lo t c || decide (gPl σ t = c)) := by
  unfold hasR
  rw [List.range_succ, List.any_append]
  simp [h]
def afterK (σ : Sg) (c : Nat) : Sg := if hasR σ (gRb σ (gSv σ - 1)) (gRows σ) c then σ else doKeep σ c
set_option maxHeartbeats 4000000 in
set_option maxRecDepth 100000 in
theorem m_keep (l : Launch) (hl : l.stackTraces = false) (base : Nat) (D : va_G) (ct : Nat → ClassId) (sa : Nat → Nat) {B G : Nat → Nat} {σ : Sg} {th : Int32} {M : Mem} {mo K : Nat} (hR : RepM ct B G σ th M mo) (hI : Inv K σ) (hB : K < 600) {a : Nat} (ha : a < 4800) (h0 : 0 < gSv σ) :
    CT l yX4_keep (.code yX4_keep cX4_keep 5 none :: WL) (rmK 1 0 0) base D ct sa M [.ref mo, .int (nI a)] (fun v9 M' => v9 = none ∧ HM ct B G M (afterK σ a) th M' mo) noX := by
  refine CT.of hl (by decide) (Nat.le_of_ble_eq_true rfl) ?_
  intro p e s m below meth c C hr hx
  have hH : HM ct B G M σ th M mo := hR.hold
  obtain ⟨⟨i1, i2, i3, i4, i5, i6, i7, i8⟩, ⟨t1, t2, t3, t4⟩, ⟨s1, s2, s3, s4⟩, ⟨r1, r2, r3, r4, r5, r6⟩, ⟨v1, v2⟩, v3⟩ := id hI
  have hpl : ∀ t, gRb σ (gSv σ - 1) ≤ t → t < gRows σ → gPl σ t < 2 ^ 31 := by
    intro t h1 h2
    have h3 := (v3 (gSv σ - 1) t (by omega) (by unfold rbx; rw [if_pos (by omega)]; exact h1) (by unfold rbx; rw [if_neg (by omega)]; exact h2)).1
    have h4 := s3 (gSv σ - 1) (by omega)
    omega
  have loop : ∀ d t : Nat, gRows σ ≤ t + d → t ≤ gRows σ → gRb σ (gSv σ - 1) ≤ t → VV p l e (rmK 1 0 0) s m ([.ref mo, .int (nI a)] : List Value).toArray below meth c 5 base D (QB base D (fun v9 M' => v9 = none ∧ HM ct B G M (afterK σ a) th M' mo) noX below ([.ref mo, .int (nI a)] : List Value).toArray s 0 0) M 0 0 17 [(0, .ref mo), (1, .int (nI a)), (2, .int (nI (gRb σ (gSv σ - 1)))), (3, .int (b2i (hasR σ (gRb σ (gSv σ - 1)) t a))), (4, .int (nI t))] [] := by
    intro d
    induction d with
    | zero =>
      intro t h1 h2 h3
      have htt : t = gRows σ := by omega
      refine V_iload C dX4_keep_17 (by rfl) ?_
      refine V_aload_n C dX4_keep_19 (by rfl) ?_
      refine V_get C (ci := 4) hH.1.1 rfl wu_X4 16 (by decide) fl_X4_67 rfl (by rfl) dX4_keep_20 ?_
      refine V_icmp_ge C 53 dX4_keep_23 (by decide) (fun h_23 => ?_) (fun h_23 => absurd h_23 (fun h => h ((nI_leI (by omega) (by omega)).mpr (by omega))))
      refine V_iload_n C dX4_keep_53 (by rfl) ?_
      refine V_if_ne C 92 dX4_keep_54 (by decide) (fun h_54 => ?_) (fun h_54 => ?_)
      · have e9 := b2i_1 h_54
        exact V_vret C hr (by decide) (by decide) dX4_keep_92 ⟨rfl, by unfold afterK; rw [← htt]; simp only [e9]; exact hH⟩
      · have e9 := b2i_0 h_54
        refine V_aload_n C dX4_keep_57 (by rfl) ?_
        refine V_get C (ci := 4) hH.1.1 rfl wu_X4 17 (by decide) fl_X4_41 rfl (by rfl) dX4_keep_58 ?_
        refine V_aload_n C dX4_keep_61 (by rfl) ?_
        refine V_get C (ci := 4) hH.1.1 rfl wu_X4 16 (by decide) fl_X4_67 rfl (by rfl) dX4_keep_62 ?_
        refine V_iload_n C dX4_keep_65 (by rfl) ?_
        refine Y_ist C hH (sf σ 12 (va_up (σ.1 12) (gRows σ) a)) rfl (by omega) (by decide) rfl (fun i _ => nF_up rfl i) ho_17 (fun _ => rfl) dX4_keep_66 (fun M1 hH => ?_)
        refine V_aload_n C dX4_keep_67 (by rfl) ?_
        refine V_get C (ci := 4) hH.1.1 rfl wu_X4 18 (by decide) fl_X4_44 rfl (by rfl) dX4_keep_68 ?_
        refine V_aload_n C dX4_keep_71 (by rfl) ?_
        refine V_get C (ci := 4) hH.1.1 rfl wu_X4 16 (by decide) fl_X4_67 rfl (by rfl) dX4_keep_72 ?_
        refine V_aload_n C dX4_keep_75 (by rfl) ?_
        refine V_get C (ci := 4) hH.1.1 rfl wu_X4 5 (by decide) fl_X4_16 rfl (by rfl) dX4_keep_76 ?_
        refine V_iload_n C dX4_keep_79 (by rfl) ?_
        refine Y_ild C hH rfl (by omega) (by decide) dX4_keep_80 ?_
        refine Y_ist C hH (sw (sf σ 12 (va_up (σ.1 12) (gRows σ) a)) 4 (va_up (σ.2 4) (gRows σ) (gCe σ a))) rfl (show gRows σ < 600 by omega) (by decide) rfl (fun _ _ => rfl) ho_18 (fun _ => rfl) dX4_keep_81 (fun M1 hH => ?_)
        refine V_aload_n C dX4_keep_82 (by rfl) ?_
        refine V_dup C dX4_keep_83 rfl ?_
        refine V_get C (ci := 4) hH.1.1 rfl wu_X4 16 (by decide) fl_X4_67 rfl (by rfl) dX4_keep_84 ?_
        refine V_iconst C (1) dX4_keep_87 (by decide) ?_
        refine V_iadd C dX4_keep_88 ?_
        refine V_top (y := nI (gRows σ + 1)) (nI_1 _) ?_
        refine Y_put C hH (sf (sw (sf σ 12 (va_up (σ.1 12) (gRows σ) a)) 4 (va_up (σ.2 4) (gRows σ) (gCe σ a))) 11 (sk (gRows σ + 1))) (th) 16 (by decide) fl_X4_67 rfl rfl (by rfl) (by rfl) (by rfl) os_11 dX4_keep_89 (fun M1 hH => ?_)
        exact V_vret C hr (by decide) (by decide) dX4_keep_92 ⟨rfl, by unfold afterK; rw [← htt]; simp only [e9]; exact hH⟩
    | succ d ih =>
      intro t h1 h2 h3
      rcases Nat.lt_or_ge t (gRows σ) with ht2 | ht2
      · refine V_iload C dX4_keep_17 (by rfl) ?_
        refine V_aload_n C dX4_keep_19 (by rfl) ?_
        refine V_get C (ci := 4) hH.1.1 rfl wu_X4 16 (by decide) fl_X4_67 rfl (by rfl) dX4_keep_20 ?_
        refine V_icmp_ge C 53 dX4_keep_23 (by decide) (fun h_23 => absurd h_23 (fun h => absurd ((nI_leI (by omega) (by omega)).mp h) (by omega))) (fun h_23 => ?_)
        refine V_iload_n C dX4_keep_26 (by rfl) ?_
        refine V_if_ne C 41 dX4_keep_27 (by decide) (fun h_27 => ?_) (fun h_27 => ?_)
        · have e9 : hasR σ (gRb σ (gSv σ - 1)) (t + 1) a = true := by rw [hasR_s h3, b2i_1 h_27]; rfl
          refine V_iconst C 1 dX4_keep_41 (by decide) ?_
          refine V_goto C 46 dX4_keep_42 (by decide) ?_
          refine V_istore_n C dX4_keep_46 (by decide) ?_
          refine V_inc1 C dX4_keep_47 (by rfl) (by decide) ?_
          refine V_goto C 17 dX4_keep_50 (by decide) ?_
          refine VV.loc [(0, .ref mo), (1, .int (nI a)), (2, .int (nI (gRb σ (gSv σ - 1)))), (3, .int (b2i (hasR σ (gRb σ (gSv σ - 1)) (t + 1) a))), (4, .int (nI (t + 1)))] ⟨rfl, rfl, rfl, (by rw [e9]; rfl), (by rw [← nI_1]; rfl), trivial⟩ ?_
          exact ih (t + 1) (by omega) (by omega) (by omega)
        · refine V_aload_n C dX4_keep_30 (by rfl) ?_
          refine V_get C (ci := 4) hH.1.1 rfl wu_X4 17 (by decide) fl_X4_41 rfl (by rfl) dX4_keep_31 ?_
          refine V_iload C dX4_keep_34 (by rfl) ?_
          refine Y_ild C hH rfl (by omega) (by decide) dX4_keep_36 ?_
          refine V_iload_n C dX4_keep_37 (by rfl) ?_
          refine V_icmp_ne C 45 dX4_keep_38 (by decide) (fun h_38 => ?_) (fun h_38 => ?_)
          · have e9 : hasR σ (gRb σ (gSv σ - 1)) (t + 1) a = false := by rw [hasR_s h3, b2i_0 h_27, decide_eq_false (fun h => h_38 (by rw [← h]; rfl))]; rfl
            refine V_iconst C 0 dX4_keep_45 (by decide) ?_
            refine V_istore_n C dX4_keep_46 (by decide) ?_
            refine V_inc1 C dX4_keep_47 (by rfl) (by decide) ?_
            refine V_goto C 17 dX4_keep_50 (by decide) ?_
            refine VV.loc [(0, .ref mo), (1, .int (nI a)), (2, .int (nI (gRb σ (gSv σ - 1)))), (3, .int (b2i (hasR σ (gRb σ (gSv σ - 1)) (t + 1) a))), (4, .int (nI (t + 1)))] ⟨rfl, rfl, rfl, (by rw [e9]; rfl), (by rw [← nI_1]; rfl), trivial⟩ ?_
            exact ih (t + 1) (by omega) (by omega) (by omega)
          · have e9 : hasR σ (gRb σ (gSv σ - 1)) (t + 1) a = true := by rw [hasR_s h3, decide_eq_true ((nI_eq (hpl t h3 ht2) (by omega)).mp h_38), Bool.or_true]
            refine V_iconst C 1 dX4_keep_41 (by decide) ?_
            refine V_goto C 46 dX4_keep_42 (by decide) ?_
            refine V_istore_n C dX4_keep_46 (by decide) ?_
            refine V_inc1 C dX4_keep_47 (by rfl) (by decide) ?_
            refine V_goto C 17 dX4_keep_50 (by decide) ?_
            refine VV.loc [(0, .ref mo), (1, .int (nI a)), (2, .int (nI (gRb σ (gSv σ - 1)))), (3, .int (b2i (hasR σ (gRb σ (gSv σ - 1)) (t + 1) a))), (4, .int (nI (t + 1)))] ⟨rfl, rfl, rfl, (by rw [e9]; rfl), (by rw [← nI_1]; rfl), trivial⟩ ?_
            exact ih (t + 1) (by omega) (by omega) (by omega)
      · exact ih t (by omega) h2 h3
  refine V_aload_n C dX4_keep_0 (by rfl) ?_
  refine V_get C (ci := 4) hH.1.1 rfl wu_X4 13 (by decide) fl_X4_32 rfl (by rfl) dX4_keep_1 ?_
  refine V_aload_n C dX4_keep_4 (by rfl) ?_
  refine V_get C (ci := 4) hH.1.1 rfl wu_X4 8 (by decide) fl_X4_64 rfl (by rfl) dX4_keep_5 ?_
  refine V_iconst C (1) dX4_keep_8 (by decide) ?_
  refine V_isub C dX4_keep_9 ?_
  refine V_top (pk_sub (b := 1) h0) ?_
  refine Y_ild C hH rfl (by omega) (by decide) dX4_keep_10 ?_
  refine V_istore_n C dX4_keep_11 (by decide) ?_
  refine V_iconst C (0) dX4_keep_12 (by decide) ?_
  refine V_istore_n C dX4_keep_13 (by decide) ?_
  refine V_iload_n C dX4_keep_14 (by rfl) ?_
  refine V_istore C dX4_keep_15 (by decide) ?_
  refine VV.loc [(0, .ref mo), (1, .int (nI a)), (2, .int (nI (gRb σ (gSv σ - 1)))), (3, .int (b2i (hasR σ (gRb σ (gSv σ - 1)) (gRb σ (gSv σ - 1)) a))), (4, .int (nI (gRb σ (gSv σ - 1))))] ⟨rfl, rfl, rfl, (by rw [hasR_0]; rfl), rfl, trivial⟩ ?_
  exact loop (gRows σ) (gRb σ (gSv σ - 1)) (by omega) (r1 _ (by omega)) (Nat.le_refl _)
set_option maxHeartbeats 4000000 in
set_option maxRecDepth 100000 in
theorem m_put (l : Launch) (hl : l.stackTraces = false) (base : Nat) (D : va_G) (ct : Nat → ClassId) (sa : Nat → Nat) {B G : Nat → Nat} {σ : Sg} {th : Int32} {M : Mem} {mo K : Nat} (hR : RepM ct B G σ th M mo) (hI : Inv K σ) (hB : K < 600) (k i v : Int32) :
    CT l yX4_put (.code yX4_put cX4_put 6 (some .int) :: WL) (rmK 3 0 0) base D ct sa M [.ref mo, .int k, .int i, .int v] (PostM ct B G M mo (oPut σ k i v)) noX := by
  refine CT.of hl (by decide) (Nat.le_of_ble_eq_true rfl) ?_
  intro p e s m below meth c C hr hx
  have hH : HM ct B G M σ th M mo := hR.hold
  obtain ⟨⟨i1, i2, i3, i4, i5, i6, i7, i8⟩, ⟨t1, t2, t3, t4⟩, ⟨s1, s2, s3, s4⟩, ⟨r1, r2, r3, r4, r5, r6⟩, ⟨v1, v2⟩, v3⟩ := id hI
  have tlE : ∀ cd : Nat, 0 < cd → cd ≤ 3 → oPut σ k i v = (cd, 0, σ) → VV p l e (rmK 3 0 0) s m ([.ref mo, .int k, .int i, .int v] : List Value).toArray below meth c 6 base D (QB base D (PostM ct B G M mo (oPut σ k i v)) noX below ([.ref mo, .int k, .int i, .int v] : List Value).toArray s 0 0) M 0 0 61 [(0, .ref mo), (1, .int k), (2, .int i), (3, .int v)] [.int (nI cd), .ref mo] := by
    intro cd hc0 hc3 hce
    refine Y_put C hH (σ) (nI cd) 0 (by decide) fl_X4_50 rfl rfl (by rfl) (by rfl) (by rfl) rfl dX4_put_61 (fun M1 hH => ?_)
    refine V_aload_n C dX4_put_64 (by rfl) ?_
    refine V_get C (ci := 4) hH.1.1 rfl wu_X4 0 (by decide) fl_X4_50 rfl (by rfl) dX4_put_65 ?_
    refine V_if_le C 73 dX4_put_68 (by decide) (fun h_68 => absurd h_68 (nI_nle hc0 (by omega))) (fun h_68 => ?_)
    refine V_iconst C (0) dX4_put_71 (by decide) ?_
    exact V_iret C hr (by decide) (by decide) dX4_put_72 ⟨by rw [hce], by rw [hce]; exact hH⟩
  refine V_aload_n C dX4_put_0 (by rfl) ?_
  refine V_aload_n C dX4_put_1 (by rfl) ?_
  refine V_iload_n C dX4_put_2 (by rfl) ?_
  refine V_callV C hx (As := [.int k]) (m_isObject l hl base D ct sa hR hI hB k) w_X4_57 hH.1.1 rfl rfl (by decide) (Nat.le_of_ble_eq_true rfl) ⟨by decide, by decide⟩ dX4_put_3 (by decide) (by decide) (fun _ _ h => h) (fun v9 M9 hv9 => ?_)
  obtain ⟨rfl, rfl⟩ := hv9
  refine VV.eqv (st' := [.int (b2i (isO σ k)), .ref mo]) rfl rfl ?_
  refine V_if_eq C 17 dX4_put_6 (by decide) (fun h_6 => ?_) (fun h_6 => ?_)
  · have hk := b2i_0 h_6
    refine V_iconst C (nI 1) dX4_put_17 (by decide) ?_
    refine V_goto C 61 dX4_put_18 (by decide) ?_
    refine VV.loc [(0, .ref mo), (1, .int k), (2, .int i), (3, .int v)] ⟨rfl, rfl, rfl, rfl, trivial⟩ ?_
    exact tlE 1 (by decide) (by decide) (by rw [oPut, if_pos (Or.inl hk)])
  · have hk := b2i_1 h_6
    refine V_aload_n C dX4_put_9 (by rfl) ?_
    refine V_iload_n C dX4_put_10 (by rfl) ?_
    refine V_callV C hx (As := [.int v]) (m_isValue l hl base D ct sa hR hI hB v) w_X4_70 hH.1.1 rfl rfl (by decide) (Nat.le_of_ble_eq_true rfl) ⟨by decide, by decide⟩ dX4_put_11 (by decide) (by decide) (fun _ _ h => h) (fun v7 M7 hv7 => ?_)
    obtain ⟨rfl, rfl⟩ := hv7
    refine VV.eqv (st' := [.int (b2i (isV σ v)), .ref mo]) rfl rfl ?_
    refine V_if_ne C 21 dX4_put_14 (by decide) (fun h_14 => ?_) (fun h_14 => ?_)
    · have hv := b2i_1 h_14
      refine V_iload_n C dX4_put_21 (by rfl) ?_
      refine V_callS C hx (As := [.int i]) (m_isEight l hl base D ct sa M7 i) w_X4_73 rfl (by decide) (Nat.le_of_ble_eq_true rfl) ⟨by decide, by decide⟩ dX4_put_22 (by decide) (by decide) (fun _ _ h => h) (fun v8 M8 hv8 => ?_)
      obtain ⟨rfl, rfl⟩ := hv8
      refine VV.eqv (st' := [.int (b2i (isN 8 i)), .ref mo]) rfl rfl ?_
      refine V_if_ne C 32 dX4_put_25 (by decide) (fun h_25 => ?_) (fun h_25 => ?_)
      · have hi := b2i_1 h_25
        obtain ⟨o, rfl, ho, ht, eo⟩ := isO_of hk (by omega)
        obtain ⟨j, hj, rfl, ej⟩ := isN_of hi (by decide)
        have hst : ¬ (gGlob σ o = 1 ∧ v < 0 ∧ gGlob σ (rfOf v) = 0) → oPut σ (nI o) (nI j) v = (0, gCe σ (8 * o + j), sw (if kept σ o (8 * o + j) then doKeep σ (8 * o + j) else σ) 0 (va_up (σ.2 0) (8 * o + j) v)) := by
          intro h
          unfold oPut
          rw [if_neg (by rw [hk, hv]; simp), if_neg (by rw [hi]; simp), eo, ej, if_neg h]
        have tl2 : ¬ (gGlob σ o = 1 ∧ v < 0 ∧ gGlob σ (rfOf v) = 0) → ∀ M1 : Mem, HM ct B G M8 (if kept σ o (8 * o + j) then doKeep σ (8 * o + j) else σ) 0 M1 mo → VV p l e (rmK 3 0 0) s m ([.ref mo, .int (nI o), .int (nI j), .int v] : List Value).toArray below meth c 6 base D (QB base D (PostM ct B G M8 mo (oPut σ (nI o) (nI j) v)) noX below ([.ref mo, .int (nI o), .int (nI j), .int v] : List Value).toArray s 0 0) M1 0 0 127 [(0, .ref mo), (1, .int (nI o)), (2, .int (nI j)), (3, .int v), (4, .int (nI (8 * o + j))), (5, .int (gCe σ (8 * o + j)))] [] := by
          intro hng M1 hH
          refine V_aload_n C dX4_put_127 (by rfl) ?_
          refine V_get C (ci := 4) hH.1.1 rfl wu_X4 5 (by decide) fl_X4_16 rfl (by rfl) dX4_put_128 ?_
          refine V_iload C dX4_put_131 (by rfl) ?_
          refine V_iload_n C dX4_put_133 (by rfl) ?_
          refine Y_ist C hH (sw (if kept σ o (8 * o + j) then doKeep σ (8 * o + j) else σ) 0 (va_up (σ.2 0) (8 * o + j) v)) rfl (by omega) (by decide) rfl (fun i _ => by show va_up ((if kept σ o (8 * o + j) then doKeep σ (8 * o + j) else σ).2 0) (8 * o + j) v i = va_up (σ.2 0) (8 * o + j) v i; congr 1; split <;> rfl) ho_5 (fun _ => rfl) dX4_put_134 (fun M1 hH => ?_)
          refine V_iload C dX4_put_135 (by rfl) ?_
          exact V_iret C hr (by decide) (by decide) dX4_put_137 (by rw [hst hng]; exact ⟨rfl, hH⟩)
        have tl0 : ¬ (gGlob σ o = 1 ∧ v < 0 ∧ gGlob σ (rfOf v) = 0) → VV p l e (rmK 3 0 0) s m ([.ref mo, .int (nI o), .int (nI j), .int v] : List Value).toArray below meth c 6 base D (QB base D (PostM ct B G M8 mo (oPut σ (nI o) (nI j) v)) noX below ([.ref mo, .int (nI o), .int (nI j), .int v] : List Value).toArray s 0 0) M8 0 0 60 [(0, .ref mo), (1, .int (nI o)), (2, .int (nI j)), (3, .int v)] [.ref mo] := by
          intro hng
          refine V_iconst C (0) dX4_put_60 (by decide) ?_
          refine Y_put C hH (σ) (0) 0 (by decide) fl_X4_50 rfl rfl (by rfl) (by rfl) (by rfl) rfl dX4_put_61 (fun M1 hH => ?_)
          refine V_aload_n C dX4_put_64 (by rfl) ?_
          refine V_get C (ci := 4) hH.1.1 rfl wu_X4 0 (by decide) fl_X4_50 rfl (by rfl) dX4_put_65 ?_
          refine V_if_le C 73 dX4_put_68 (by decide) (fun h_68 => ?_) (fun h_68 => absurd h_68 (fun h => h (Int32.le_refl _)))
          refine V_bipush C (nI 8) dX4_put_73 (by decide) ?_
          refine V_iload_n C dX4_put_75 (by rfl) ?_
          refine V_imul C dX4_put_76 ?_
          refine V_iload_n C dX4_put_77 (by rfl) ?_
          refine V_iadd C dX4_put_78 ?_
          refine V_top (y := nI (8 * o + j)) (by rw [pk_mul, nI_add]) ?_
          refine V_istore C dX4_put_79 (by decide) ?_
          refine V_aload_n C dX4_put_81 (by rfl) ?_
          refine V_get C (ci := 4) hH.1.1 rfl wu_X4 5 (by decide) fl_X4_16 rfl (by rfl) dX4_put_82 ?_
          refine V_iload C dX4_put_85 (by rfl) ?_
          refine Y_ild C hH rfl (by omega) (by decide) dX4_put_87 ?_
          refine V_istore C dX4_put_88 (by decide) ?_
          refine V_aload_n C dX4_put_90 (by rfl) ?_
          refine V_get C (ci := 4) hH.1.1 rfl wu_X4 8 (by decide) fl_X4_64 rfl (by rfl) dX4_put_91 ?_
          refine V_if_le C 127 dX4_put_94 (by decide) (fun h_94 => ?_) (fun h_94 => ?_)
          · refine VV.loc [(0, .ref mo), (1, .int (nI o)), (2, .int (nI j)), (3, .int v), (4, .int (nI (8 * o + j))), (5, .int (gCe σ (8 * o + j)))] ⟨rfl, rfl, rfl, rfl, rfl, rfl, trivial⟩ ?_
            exact tl2 hng M1 (hH.eq (by rw [if_neg (by simp only [kept]; rw [decide_eq_false (fun h => nI_nle h.1 (by omega) h_94)]; simp)]))
          · have h0 : 0 < gSv σ := Nat.pos_of_ne_zero (fun h => h_94 (by rw [h]; exact Int32.le_refl _))
            refine V_aload_n C dX4_put_97 (by rfl) ?_
            refine V_get C (ci := 4) hH.1.1 rfl wu_X4 4 (by decide) fl_X4_13 rfl (by rfl) dX4_put_98 ?_
            refine V_iload_n C dX4_put_101 (by rfl) ?_
            refine Y_zld C hH rfl (by omega) (by decide) dX4_put_102 ?_
            refine V_if_ne C 127 dX4_put_103 (by decide) (fun h_103 => ?_) (fun h_103 => ?_)
            · refine VV.loc [(0, .ref mo), (1, .int (nI o)), (2, .int (nI j)), (3, .int v), (4, .int (nI (8 * o + j))), (5, .int (gCe σ (8 * o + j)))] ⟨rfl, rfl, rfl, rfl, rfl, rfl, trivial⟩ ?_
              exact tl2 hng M1 (hH.eq (by rw [if_neg (by simp only [kept]; rw [decide_eq_false (fun h => h_103 (by show nI (gGlob σ o) = 0; rw [h.2.1]; exact nI_0))]; simp)]))
            · have hg0 : gGlob σ o = 0 := (nI_b (t2 o)).1 h_103
              refine V_iload_n C dX4_put_106 (by rfl) ?_
              refine V_aload_n C dX4_put_107 (by rfl) ?_
              refine V_get C (ci := 4) hH.1.1 rfl wu_X4 12 (by decide) fl_X4_29 rfl (by rfl) dX4_put_108 ?_
              refine V_aload_n C dX4_put_111 (by rfl) ?_
              refine V_get C (ci := 4) hH.1.1 rfl wu_X4 8 (by decide) fl_X4_64 rfl (by rfl) dX4_put_112 ?_
              refine V_iconst C (1) dX4_put_115 (by decide) ?_
              refine V_isub C dX4_put_116 ?_
              refine V_top (pk_sub (b := 1) h0) ?_
              refine Y_ild C hH rfl (by omega) (by decide) dX4_put_117 ?_
              refine V_icmp_ge C 127 dX4_put_118 (by decide) (fun h_118 => ?_) (fun h_118 => ?_)
              · refine VV.loc [(0, .ref mo), (1, .int (nI o)), (2, .int (nI j)), (3, .int v), (4, .int (nI (8 * o + j))), (5, .int (gCe σ (8 * o + j)))] ⟨rfl, rfl, rfl, rfl, rfl, rfl, trivial⟩ ?_
                exact tl2 hng M1 (hH.eq (by rw [if_neg (by simp only [kept]; rw [decide_eq_false (fun h => absurd ((nI_leI (a := gFst σ (gSv σ - 1)) (by have := s3 (gSv σ - 1) (by omega); omega) (by omega)).mp h_118) (by omega))]; simp)]))
              · have hf9 : o < gFst σ (gSv σ - 1) := Nat.lt_of_not_le (fun h => h_118 (nI_le h (by omega)))
                refine V_aload_n C dX4_put_121 (by rfl) ?_
                refine V_iload C dX4_put_122 (by rfl) ?_
                refine V_callV C hx (As := [.int (nI (8 * o + j))]) (m_keep l hl base D ct sa hH.1 hI hB (a := 8 * o + j) (by omega) h0) w_X4_76 hH.1.1 rfl rfl (by decide) (Nat.le_of_ble_eq_true rfl) ⟨by decide, by decide⟩ dX4_put_124 (by decide) (by decide) (fun _ _ h => h) (fun v6 M6 hv6 => ?_)
                obtain ⟨rfl, hK⟩ := hv6
                refine VV.loc [(0, .ref mo), (1, .int (nI o)), (2, .int (nI j)), (3, .int v), (4, .int (nI (8 * o + j))), (5, .int (gCe σ (8 * o + j)))] ⟨rfl, rfl, rfl, rfl, rfl, rfl, trivial⟩ ?_
                exact tl2 hng M6 ((hH.trans hK).eq (by unfold afterK kept; rw [decide_eq_true ⟨h0, hg0, hf9⟩]; cases hasR σ (gRb σ (gSv σ - 1)) (gRows σ) (8 * o + j) <;> rfl))
        refine V_aload_n C dX4_put_32 (by rfl) ?_
        refine V_get C (ci := 4) hH.1.1 rfl wu_X4 4 (by decide) fl_X4_13 rfl (by rfl) dX4_put_33 ?_
        refine V_iload_n C dX4_put_36 (by rfl) ?_
        refine Y_zld C hH rfl (by omega) (by decide) dX4_put_37 ?_
        refine V_if_eq C 60 dX4_put_38 (by decide) (fun h_38 => ?_) (fun h_38 => ?_)
        · refine VV.loc [(0, .ref mo), (1, .int (nI o)), (2, .int (nI j)), (3, .int v)] ⟨rfl, rfl, rfl, rfl, trivial⟩ ?_
          exact tl0 (fun h => absurd ((nI_b (t2 o)).1 h_38) (by omega))
        · have hg1 : gGlob σ o = 1 := (nI_b (t2 o)).2 h_38
          refine V_iload_n C dX4_put_41 (by rfl) ?_
          refine V_if_ge C 60 dX4_put_42 (by decide) (fun h_42 => ?_) (fun h_42 => ?_)
          · refine VV.loc [(0, .ref mo), (1, .int (nI o)), (2, .int (nI j)), (3, .int v)] ⟨rfl, rfl, rfl, rfl, trivial⟩ ?_
            exact tl0 (fun h => absurd h.2.1 (Int32.not_lt.mpr h_42))
          · have hv0 : v < 0 := Int32.not_le.mp h_42
            have hvo : isO σ (-1 - v) = true := by simpa [isV, h_42] using hv
            obtain ⟨o2, eo2, ho2, ht2, ec2⟩ := isO_of hvo (by omega)
            have er : rfOf v = o2 := ec2
            refine V_aload_n C dX4_put_45 (by rfl) ?_
            refine V_get C (ci := 4) hH.1.1 rfl wu_X4 4 (by decide) fl_X4_13 rfl (by rfl) dX4_put_46 ?_
            refine V_iconst C (-1) dX4_put_49 (by decide) ?_
            refine V_iload_n C dX4_put_50 (by rfl) ?_
            refine V_isub C dX4_put_51 ?_
            refine V_top eo2 ?_
            refine Y_zld C hH rfl (by omega) (by decide) dX4_put_52 ?_
            refine V_if_ne C 60 dX4_put_53 (by decide) (fun h_53 => ?_) (fun h_53 => ?_)
            · refine VV.loc [(0, .ref mo), (1, .int (nI o)), (2, .int (nI j)), (3, .int v)] ⟨rfl, rfl, rfl, rfl, trivial⟩ ?_
              exact tl0 (fun h => absurd ((nI_b (t2 o2)).2 h_53) (by rw [← er]; omega))
            · have hg2 : gGlob σ (rfOf v) = 0 := by rw [er]; exact (nI_b (t2 o2)).1 h_53
              refine V_iconst C (nI 3) dX4_put_56 (by decide) ?_
              refine V_goto C 61 dX4_put_57 (by decide) ?_
              refine VV.loc [(0, .ref mo), (1, .int (nI o)), (2, .int (nI j)), (3, .int v)] ⟨rfl, rfl, rfl, rfl, trivial⟩ ?_
              exact tlE 3 (by decide) (by decide) (by unfold oPut; rw [if_neg (by rw [hk, hv]; simp), if_neg (by rw [hi]; simp), eo, if_pos ⟨hg1, hv0, hg2⟩])
      · have hi := b2i_0 h_25
        refine V_iconst C (nI 2) dX4_put_28 (by decide) ?_
        refine V_goto C 61 dX4_put_29 (by decide) ?_
        refine VV.loc [(0, .ref mo), (1, .int k), (2, .int i), (3, .int v)] ⟨rfl, rfl, rfl, rfl, trivial⟩ ?_
        exact tlE 2 (by decide) (by decide) (by rw [oPut, if_neg (by rw [hk, hv]; simp), if_pos hi])
    · have hv := b2i_0 h_14
      refine V_iconst C (nI 1) dX4_put_17 (by decide) ?_
      refine V_goto C 61 dX4_put_18 (by decide) ?_
      refine VV.loc [(0, .ref mo), (1, .int k), (2, .int i), (3, .int v)] ⟨rfl, rfl, rfl, rfl, trivial⟩ ?_
      exact tlE 1 (by decide) (by decide) (by rw [oPut, if_pos (Or.inr hv)])
