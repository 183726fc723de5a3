/-! the reference: get, stateOf, state, bytes, old, object -/
set_option maxHeartbeats 4000000 in
set_option maxRecDepth 100000 in
theorem m_get (l : Launch) (hl : l.stackTraces = false) (base : Nat) (D : va_G) (ct : Nat → ClassId) (sa : Nat → Nat) {B G : Nat → Nat} {σ : Sg} {th : Int32} {M : Mem} {mo K : Nat} (hR : RepM ct B G σ th M mo) (hI : Inv K σ) (hB : K < 600) (k i : Int32) :
    CT l yX4_get (.code yX4_get cX4_get 3 (some .int) :: WL) (rmK 2 0 0) base D ct sa M [.ref mo, .int k, .int i] (PostM ct B G M mo (oGet σ k i)) noX := by
  refine CT.of hl (by decide) (Nat.le_of_ble_eq_true rfl) ?_
  intro p e s m below meth c C hr hx
  have hH : HM ct B G M σ th M mo := hR.hold
  obtain ⟨⟨i1, i2, i3, i4, i5, i6, i7, i8⟩, ⟨t1, t2, t3, t4⟩, ⟨s1, s2, s3, s4⟩, ⟨r1, r2, r3, r4, r5, r6⟩, ⟨v1, v2⟩, v3⟩ := id hI
  have tlE : ∀ cd : Nat, 0 < cd → cd ≤ 3 → oGet σ k i = (cd, 0, σ) → VV p l e (rmK 2 0 0) s m ([.ref mo, .int k, .int i] : List Value).toArray below meth c 3 base D (QB base D (PostM ct B G M mo (oGet σ k i)) noX below ([.ref mo, .int k, .int i] : List Value).toArray s 0 0) M 0 0 25 [(0, .ref mo), (1, .int k), (2, .int i)] [.int (nI cd), .ref mo] := by
    intro cd hc0 hc3 hce
    refine Y_put C hH (σ) (nI cd) 0 (by decide) fl_X4_50 rfl rfl (by rfl) (by rfl) (by rfl) rfl dX4_get_25 (fun M1 hH => ?_)
    refine V_aload_n C dX4_get_28 (by rfl) ?_
    refine V_get C (ci := 4) hH.1.1 rfl wu_X4 0 (by decide) fl_X4_50 rfl (by rfl) dX4_get_29 ?_
    refine V_if_le C 39 dX4_get_32 (by decide) (fun h_32 => absurd h_32 (nI_nle hc0 (by omega))) (fun h_32 => ?_)
    refine V_iconst C (0) dX4_get_35 (by decide) ?_
    refine V_goto C 50 dX4_get_36 (by decide) ?_
    exact V_iret C hr (by decide) (by decide) dX4_get_50 ⟨by rw [hce], by rw [hce]; exact hH⟩
  refine V_aload_n C dX4_get_0 (by rfl) ?_
  refine V_aload_n C dX4_get_1 (by rfl) ?_
  refine V_iload_n C dX4_get_2 (by rfl) ?_
  refine V_callV C hx (As := [.int k]) (m_isObject l hl base D ct sa hR hI hB k) w_X4_57 hH.1.1 rfl rfl (by decide) (Nat.le_of_ble_eq_true rfl) ⟨by decide, by decide⟩ dX4_get_3 (by decide) (by decide) (fun _ _ h => h) (fun v9 M9 hv9 => ?_)
  obtain ⟨rfl, rfl⟩ := hv9
  refine VV.eqv (st' := [.int (b2i (isO σ k)), .ref mo]) rfl rfl ?_
  refine V_if_ne C 13 dX4_get_6 (by decide) (fun h_6 => ?_) (fun h_6 => ?_)
  · have hk := b2i_1 h_6
    refine V_iload_n C dX4_get_13 (by rfl) ?_
    refine V_callS C hx (As := [.int i]) (m_isEight l hl base D ct sa M9 i) w_X4_73 rfl (by decide) (Nat.le_of_ble_eq_true rfl) ⟨by decide, by decide⟩ dX4_get_14 (by decide) (by decide) (fun _ _ h => h) (fun v8 M8 hv8 => ?_)
    obtain ⟨rfl, rfl⟩ := hv8
    refine VV.eqv (st' := [.int (b2i (isN 8 i)), .ref mo]) rfl rfl ?_
    refine V_if_ne C 24 dX4_get_17 (by decide) (fun h_17 => ?_) (fun h_17 => ?_)
    · have hi := b2i_1 h_17
      obtain ⟨o, rfl, ho, ht, eo⟩ := isO_of hk (by omega)
      obtain ⟨j, hj, rfl, ej⟩ := isN_of hi (by decide)
      refine V_iconst C (0) dX4_get_24 (by decide) ?_
      refine Y_put C hH (σ) (0) 0 (by decide) fl_X4_50 rfl rfl (by rfl) (by rfl) (by rfl) rfl dX4_get_25 (fun M1 hH => ?_)
      refine V_aload_n C dX4_get_28 (by rfl) ?_
      refine V_get C (ci := 4) hH.1.1 rfl wu_X4 0 (by decide) fl_X4_50 rfl (by rfl) dX4_get_29 ?_
      refine V_if_le C 39 dX4_get_32 (by decide) (fun h_32 => ?_) (fun h_32 => absurd h_32 (fun h => h (Int32.le_refl _)))
      refine V_aload_n C dX4_get_39 (by rfl) ?_
      refine V_get C (ci := 4) hH.1.1 rfl wu_X4 5 (by decide) fl_X4_16 rfl (by rfl) dX4_get_40 ?_
      refine V_bipush C (nI 8) dX4_get_43 (by decide) ?_
      refine V_iload_n C dX4_get_45 (by rfl) ?_
      refine V_imul C dX4_get_46 ?_
      refine V_iload_n C dX4_get_47 (by rfl) ?_
      refine V_iadd C dX4_get_48 ?_
      refine V_top (y := nI (8 * o + j)) (by rw [pk_mul, nI_add]) ?_
      refine Y_ild C hH rfl (by omega) (by decide) dX4_get_49 ?_
      exact V_iret C hr (by decide) (by decide) dX4_get_50 (by rw [show oGet σ (nI o) (nI j) = (0, gCe σ (8 * o + j), σ) by simp only [oGet, hk, hi, eo, ej]; rfl]; exact ⟨rfl, hH⟩)
    · have hi := b2i_0 h_17
      refine V_iconst C (nI 2) dX4_get_20 (by decide) ?_
      refine V_goto C 25 dX4_get_21 (by decide) ?_
      refine VV.loc [(0, .ref mo), (1, .int k), (2, .int i)] ⟨rfl, rfl, rfl, trivial⟩ ?_
      exact tlE 2 (by decide) (by decide) (by simp [oGet, hk, hi])
  · have hk := b2i_0 h_6
    refine V_iconst C (nI 1) dX4_get_9 (by decide) ?_
    refine V_goto C 25 dX4_get_10 (by decide) ?_
    refine VV.loc [(0, .ref mo), (1, .int k), (2, .int i)] ⟨rfl, rfl, rfl, trivial⟩ ?_
    exact tlE 1 (by decide) (by decide) (by simp [oGet, hk])
set_option maxHeartbeats 4000000 in
set_option maxRecDepth 100000 in
theorem m_stateOf (l : Launch) (hl : l.stackTraces = false) (base : Nat) (D : va_G) (ct : Nat → ClassId) (sa : Nat → Nat) {B G : Nat → Nat} {σ : Sg} {th : Int32} {M : Mem} {mo K : Nat} (hR : RepM ct B G σ th M mo) (hI : Inv K σ) (hB : K < 600) (i : Int32) :
    CT l yX4_stateOf (.code yX4_stateOf cX4_stateOf 2 (some .int) :: WL) (rmK 2 0 0) base D ct sa M [.ref mo, .int i] (PostM ct B G M mo (oStateOf σ i)) noX := by
  refine CT.of hl (by decide) (Nat.le_of_ble_eq_true rfl) ?_
  intro p e s m below meth c C hr hx
  have hH : HM ct B G M σ th M mo := hR.hold
  obtain ⟨⟨i1, i2, i3, i4, i5, i6, i7, i8⟩, ⟨t1, t2, t3, t4⟩, ⟨s1, s2, s3, s4⟩, ⟨r1, r2, r3, r4, r5, r6⟩, ⟨v1, v2⟩, v3⟩ := id hI
  have tlE : ∀ cd : Nat, 0 < cd → cd ≤ 3 → oStateOf σ i = (cd, 0, σ) → VV p l e (rmK 2 0 0) s m ([.ref mo, .int i] : List Value).toArray below meth c 2 base D (QB base D (PostM ct B G M mo (oStateOf σ i)) noX below ([.ref mo, .int i] : List Value).toArray s 0 0) M 0 0 13 [(0, .ref mo), (1, .int i)] [.int (nI cd), .ref mo] := by
    intro cd hc0 hc3 hce
    refine Y_put C hH (σ) (nI cd) 0 (by decide) fl_X4_50 rfl rfl (by rfl) (by rfl) (by rfl) rfl dX4_stateOf_13 (fun M1 hH => ?_)
    refine V_aload_n C dX4_stateOf_16 (by rfl) ?_
    refine V_get C (ci := 4) hH.1.1 rfl wu_X4 0 (by decide) fl_X4_50 rfl (by rfl) dX4_stateOf_17 ?_
    refine V_if_le C 27 dX4_stateOf_20 (by decide) (fun h_20 => absurd h_20 (nI_nle hc0 (by omega))) (fun h_20 => ?_)
    refine V_iconst C (0) dX4_stateOf_23 (by decide) ?_
    refine V_goto C 33 dX4_stateOf_24 (by decide) ?_
    exact V_iret C hr (by decide) (by decide) dX4_stateOf_33 ⟨by rw [hce], by rw [hce]; exact hH⟩
  refine V_aload_n C dX4_stateOf_0 (by rfl) ?_
  refine V_iload_n C dX4_stateOf_1 (by rfl) ?_
  refine V_callS C hx (As := [.int i]) (m_isParameter l hl base D ct sa M i) w_X4_96 rfl (by decide) (Nat.le_of_ble_eq_true rfl) ⟨by decide, by decide⟩ dX4_stateOf_2 (by decide) (by decide) (fun _ _ h => h) (fun v8 M8 hv8 => ?_)
  obtain ⟨rfl, rfl⟩ := hv8
  refine VV.eqv (st' := [.int (b2i (isN 10 i)), .ref mo]) rfl rfl ?_
  refine V_if_eq C 12 dX4_stateOf_5 (by decide) (fun h_5 => ?_) (fun h_5 => ?_)
  · have hi := b2i_0 h_5
    refine V_iconst C (nI 1) dX4_stateOf_12 (by decide) ?_
    refine VV.loc [(0, .ref mo), (1, .int i)] ⟨rfl, rfl, trivial⟩ ?_
    exact tlE 1 (by decide) (by decide) (by simp [oStateOf, hi])
  · have hi := b2i_1 h_5
    obtain ⟨j, hj, rfl, ej⟩ := isN_of hi (by decide)
    refine V_iconst C (0) dX4_stateOf_8 (by decide) ?_
    refine V_goto C 13 dX4_stateOf_9 (by decide) ?_
    refine Y_put C hH (σ) (0) 0 (by decide) fl_X4_50 rfl rfl (by rfl) (by rfl) (by rfl) rfl dX4_stateOf_13 (fun M1 hH => ?_)
    refine V_aload_n C dX4_stateOf_16 (by rfl) ?_
    refine V_get C (ci := 4) hH.1.1 rfl wu_X4 0 (by decide) fl_X4_50 rfl (by rfl) dX4_stateOf_17 ?_
    refine V_if_le C 27 dX4_stateOf_20 (by decide) (fun h_20 => ?_) (fun h_20 => absurd h_20 (fun h => h (Int32.le_refl _)))
    refine V_aload_n C dX4_stateOf_27 (by rfl) ?_
    refine V_get C (ci := 4) hH.1.1 rfl wu_X4 7 (by decide) fl_X4_23 rfl (by rfl) dX4_stateOf_28 ?_
    refine V_iload_n C dX4_stateOf_31 (by rfl) ?_
    refine Y_ild C hH rfl hj (by decide) dX4_stateOf_32 ?_
    exact V_iret C hr (by decide) (by decide) dX4_stateOf_33 (by rw [show oStateOf σ (nI j) = (0, gPa σ j, σ) by simp only [oStateOf, hi, ej]; rfl]; exact ⟨rfl, hH⟩)
set_option maxHeartbeats 4000000 in
set_option maxRecDepth 100000 in
theorem m_state (l : Launch) (hl : l.stackTraces = false) (base : Nat) (D : va_G) (ct : Nat → ClassId) (sa : Nat → Nat) {B G : Nat → Nat} {σ : Sg} {th : Int32} {M : Mem} {mo K : Nat} (hR : RepM ct B G σ th M mo) (hI : Inv K σ) (hB : K < 600) (i v : Int32) :
    CT l yX4_state (.code yX4_state cX4_state 4 (some .int) :: WL) (rmK 3 0 0) base D ct sa M [.ref mo, .int i, .int v] (PostM ct B G M mo (oState σ i v)) noX := by
  refine CT.of hl (by decide) (Nat.le_of_ble_eq_true rfl) ?_
  intro p e s m below meth c C hr hx
  have hH : HM ct B G M σ th M mo := hR.hold
  obtain ⟨⟨i1, i2, i3, i4, i5, i6, i7, i8⟩, ⟨t1, t2, t3, t4⟩, ⟨s1, s2, s3, s4⟩, ⟨r1, r2, r3, r4, r5, r6⟩, ⟨v1, v2⟩, v3⟩ := id hI
  have tlE : ∀ cd : Nat, 0 < cd → cd ≤ 3 → oState σ i v = (cd, 0, σ) → VV p l e (rmK 3 0 0) s m ([.ref mo, .int i, .int v] : List Value).toArray below meth c 4 base D (QB base D (PostM ct B G M mo (oState σ i v)) noX below ([.ref mo, .int i, .int v] : List Value).toArray s 0 0) M 0 0 25 [(0, .ref mo), (1, .int i), (2, .int v)] [.int (nI cd), .ref mo] := by
    intro cd hc0 hc3 hce
    refine Y_put C hH (σ) (nI cd) 0 (by decide) fl_X4_50 rfl rfl (by rfl) (by rfl) (by rfl) rfl dX4_state_25 (fun M1 hH => ?_)
    refine V_aload_n C dX4_state_28 (by rfl) ?_
    refine V_get C (ci := 4) hH.1.1 rfl wu_X4 0 (by decide) fl_X4_50 rfl (by rfl) dX4_state_29 ?_
    refine V_if_le C 37 dX4_state_32 (by decide) (fun h_32 => absurd h_32 (nI_nle hc0 (by omega))) (fun h_32 => ?_)
    refine V_iconst C (0) dX4_state_35 (by decide) ?_
    exact V_iret C hr (by decide) (by decide) dX4_state_36 ⟨by rw [hce], by rw [hce]; exact hH⟩
  refine V_aload_n C dX4_state_0 (by rfl) ?_
  refine V_aload_n C dX4_state_1 (by rfl) ?_
  refine V_iload_n C dX4_state_2 (by rfl) ?_
  refine V_callV C hx (As := [.int v]) (m_isValue l hl base D ct sa hR hI hB v) w_X4_70 hH.1.1 rfl rfl (by decide) (Nat.le_of_ble_eq_true rfl) ⟨by decide, by decide⟩ dX4_state_3 (by decide) (by decide) (fun _ _ h => h) (fun v9 M9 hv9 => ?_)
  obtain ⟨rfl, rfl⟩ := hv9
  refine VV.eqv (st' := [.int (b2i (isV σ v)), .ref mo]) rfl rfl ?_
  refine V_if_ne C 13 dX4_state_6 (by decide) (fun h_6 => ?_) (fun h_6 => ?_)
  · have hk := b2i_1 h_6
    refine V_iload_n C dX4_state_13 (by rfl) ?_
    refine V_callS C hx (As := [.int i]) (m_isParameter l hl base D ct sa M9 i) w_X4_96 rfl (by decide) (Nat.le_of_ble_eq_true rfl) ⟨by decide, by decide⟩ dX4_state_14 (by decide) (by decide) (fun _ _ h => h) (fun v8 M8 hv8 => ?_)
    obtain ⟨rfl, rfl⟩ := hv8
    refine VV.eqv (st' := [.int (b2i (isN 10 i)), .ref mo]) rfl rfl ?_
    refine V_if_ne C 24 dX4_state_17 (by decide) (fun h_17 => ?_) (fun h_17 => ?_)
    · have hi := b2i_1 h_17
      obtain ⟨j, hj, rfl, ej⟩ := isN_of hi (by decide)
      refine V_iconst C (0) dX4_state_24 (by decide) ?_
      refine Y_put C hH (σ) (0) 0 (by decide) fl_X4_50 rfl rfl (by rfl) (by rfl) (by rfl) rfl dX4_state_25 (fun M1 hH => ?_)
      refine V_aload_n C dX4_state_28 (by rfl) ?_
      refine V_get C (ci := 4) hH.1.1 rfl wu_X4 0 (by decide) fl_X4_50 rfl (by rfl) dX4_state_29 ?_
      refine V_if_le C 37 dX4_state_32 (by decide) (fun h_32 => ?_) (fun h_32 => absurd h_32 (fun h => h (Int32.le_refl _)))
      refine V_aload_n C dX4_state_37 (by rfl) ?_
      refine V_get C (ci := 4) hH.1.1 rfl wu_X4 7 (by decide) fl_X4_23 rfl (by rfl) dX4_state_38 ?_
      refine V_iload_n C dX4_state_41 (by rfl) ?_
      refine Y_ild C hH rfl hj (by decide) dX4_state_42 ?_
      refine V_istore_n C dX4_state_43 (by decide) ?_
      refine V_aload_n C dX4_state_44 (by rfl) ?_
      refine V_get C (ci := 4) hH.1.1 rfl wu_X4 7 (by decide) fl_X4_23 rfl (by rfl) dX4_state_45 ?_
      refine V_iload_n C dX4_state_48 (by rfl) ?_
      refine V_iload_n C dX4_state_49 (by rfl) ?_
      refine Y_ist C hH (sw σ 2 (va_up (σ.2 2) j v)) rfl hj (by decide) rfl (fun _ _ => rfl) ho_7 (fun _ => rfl) dX4_state_50 (fun M1 hH => ?_)
      refine V_iload_n C dX4_state_51 (by rfl) ?_
      exact V_iret C hr (by decide) (by decide) dX4_state_52 (by rw [show oState σ (nI j) v = (0, gPa σ j, sw σ 2 (va_up (σ.2 2) j v)) by simp only [oState, hk, hi, ej]; rfl]; exact ⟨rfl, hH⟩)
    · have hi := b2i_0 h_17
      refine V_iconst C (nI 2) dX4_state_20 (by decide) ?_
      refine V_goto C 25 dX4_state_21 (by decide) ?_
      refine VV.loc [(0, .ref mo), (1, .int i), (2, .int v)] ⟨rfl, rfl, rfl, trivial⟩ ?_
      exact tlE 2 (by decide) (by decide) (by simp [oState, hk, hi])
  · have hk := b2i_0 h_6
    refine V_iconst C (nI 1) dX4_state_9 (by decide) ?_
    refine V_goto C 25 dX4_state_10 (by decide) ?_
    refine VV.loc [(0, .ref mo), (1, .int i), (2, .int v)] ⟨rfl, rfl, rfl, trivial⟩ ?_
    exact tlE 1 (by decide) (by decide) (by simp [oState, hk])
set_option maxHeartbeats 4000000 in
set_option maxRecDepth 100000 in
theorem m_bytes (l : Launch) (hl : l.stackTraces = false) (base : Nat) (D : va_G) (ct : Nat → ClassId) (sa : Nat → Nat) {B G : Nat → Nat} {σ : Sg} {th : Int32} {M : Mem} {mo K : Nat} (hR : RepM ct B G σ th M mo) (hI : Inv K σ) (hB : K < 600) (k i v : Int32) :
    CT l yX4_bytes (.code yX4_bytes cX4_bytes 6 (some .int) :: WL) (rmK 2 0 0) base D ct sa M [.ref mo, .int k, .int i, .int v] (PostM ct B G M mo (oBytes σ k i v)) noX := by
  refine CT.of hl (by decide) (Nat.le_of_ble_eq_true rfl) ?_
  intro p e s m below meth c C hr hx
  have hH : HM ct B G M σ th M mo := hR.hold
  obtain ⟨⟨i1, i2, i3, i4, i5, i6, i7, i8⟩, ⟨t1, t2, t3, t4⟩, ⟨s1, s2, s3, s4⟩, ⟨r1, r2, r3, r4, r5, r6⟩, ⟨v1, v2⟩, v3⟩ := id hI
  have tlE : ∀ cd : Nat, 0 < cd → cd ≤ 3 → oBytes σ k i v = (cd, 0, σ) → VV p l e (rmK 2 0 0) s m ([.ref mo, .int k, .int i, .int v] : List Value).toArray below meth c 6 base D (QB base D (PostM ct B G M mo (oBytes σ k i v)) noX below ([.ref mo, .int k, .int i, .int v] : List Value).toArray s 0 0) M 0 0 37 [(0, .ref mo), (1, .int k), (2, .int i), (3, .int v)] [.int (nI cd), .ref mo] := by
    intro cd hc0 hc3 hce
    refine Y_put C hH (σ) (nI cd) 0 (by decide) fl_X4_50 rfl rfl (by rfl) (by rfl) (by rfl) rfl dX4_bytes_37 (fun M1 hH => ?_)
    refine V_aload_n C dX4_bytes_40 (by rfl) ?_
    refine V_get C (ci := 4) hH.1.1 rfl wu_X4 0 (by decide) fl_X4_50 rfl (by rfl) dX4_bytes_41 ?_
    refine V_if_le C 49 dX4_bytes_44 (by decide) (fun h_44 => absurd h_44 (nI_nle hc0 (by omega))) (fun h_44 => ?_)
    refine V_iconst C (0) dX4_bytes_47 (by decide) ?_
    exact V_iret C hr (by decide) (by decide) dX4_bytes_48 ⟨by rw [hce], by rw [hce]; exact hH⟩
  refine V_aload_n C dX4_bytes_0 (by rfl) ?_
  refine V_aload_n C dX4_bytes_1 (by rfl) ?_
  refine V_iload_n C dX4_bytes_2 (by rfl) ?_
  refine V_callV C hx (As := [.int k]) (m_isObject l hl base D ct sa hR hI hB k) w_X4_57 hH.1.1 rfl rfl (by decide) (Nat.le_of_ble_eq_true rfl) ⟨by decide, by decide⟩ dX4_bytes_3 (by decide) (by decide) (fun _ _ h => h) (fun v9 M9 hv9 => ?_)
  obtain ⟨rfl, rfl⟩ := hv9
  refine VV.eqv (st' := [.int (b2i (isO σ k)), .ref mo]) rfl rfl ?_
  refine V_if_ne C 13 dX4_bytes_6 (by decide) (fun h_6 => ?_) (fun h_6 => ?_)
  · have hk := b2i_1 h_6
    refine V_iload_n C dX4_bytes_13 (by rfl) ?_
    refine V_callS C hx (As := [.int i]) (m_isEight l hl base D ct sa M9 i) w_X4_73 rfl (by decide) (Nat.le_of_ble_eq_true rfl) ⟨by decide, by decide⟩ dX4_bytes_14 (by decide) (by decide) (fun _ _ h => h) (fun v8 M8 hv8 => ?_)
    obtain ⟨rfl, rfl⟩ := hv8
    refine VV.eqv (st' := [.int (b2i (isN 8 i)), .ref mo]) rfl rfl ?_
    refine V_if_eq C 32 dX4_bytes_17 (by decide) (fun h_17 => ?_) (fun h_17 => ?_)
    · have hi := b2i_0 h_17
      refine V_iconst C (nI 2) dX4_bytes_32 (by decide) ?_
      refine V_goto C 37 dX4_bytes_33 (by decide) ?_
      refine VV.loc [(0, .ref mo), (1, .int k), (2, .int i), (3, .int v)] ⟨rfl, rfl, rfl, rfl, trivial⟩ ?_
      exact tlE 2 (by decide) (by decide) (by simp [oBytes, hk, hi])
    · have hi := b2i_1 h_17
      refine V_iload_n C dX4_bytes_20 (by rfl) ?_
      refine V_iconst C (-1) dX4_bytes_21 (by decide) ?_
      refine V_icmp_lt C 32 dX4_bytes_22 (by decide) (fun h_22 => ?_) (fun h_22 => ?_)
      · refine V_iconst C (nI 2) dX4_bytes_32 (by decide) ?_
        refine V_goto C 37 dX4_bytes_33 (by decide) ?_
        refine VV.loc [(0, .ref mo), (1, .int k), (2, .int i), (3, .int v)] ⟨rfl, rfl, rfl, rfl, trivial⟩ ?_
        exact tlE 2 (by decide) (by decide) (by simp [oBytes, hk, h_22])
      · refine V_iload_n C dX4_bytes_25 (by rfl) ?_
        refine V_sipush C (255) dX4_bytes_26 (by decide) ?_
        refine V_icmp_le C 36 dX4_bytes_29 (by decide) (fun h_29 => ?_) (fun h_29 => ?_)
        · obtain ⟨o, rfl, ho, ht, eo⟩ := isO_of hk (by omega)
          obtain ⟨j, hj, rfl, ej⟩ := isN_of hi (by decide)
          refine V_iconst C (0) dX4_bytes_36 (by decide) ?_
          refine Y_put C hH (σ) (0) 0 (by decide) fl_X4_50 rfl rfl (by rfl) (by rfl) (by rfl) rfl dX4_bytes_37 (fun M1 hH => ?_)
          refine V_aload_n C dX4_bytes_40 (by rfl) ?_
          refine V_get C (ci := 4) hH.1.1 rfl wu_X4 0 (by decide) fl_X4_50 rfl (by rfl) dX4_bytes_41 ?_
          refine V_if_le C 49 dX4_bytes_44 (by decide) (fun h_44 => ?_) (fun h_44 => absurd h_44 (fun h => h (Int32.le_refl _)))
          refine V_bipush C (nI 8) dX4_bytes_49 (by decide) ?_
          refine V_iload_n C dX4_bytes_51 (by rfl) ?_
          refine V_imul C dX4_bytes_52 ?_
          refine V_iload_n C dX4_bytes_53 (by rfl) ?_
          refine V_iadd C dX4_bytes_54 ?_
          refine V_top (y := nI (8 * o + j)) (by rw [pk_mul, nI_add]) ?_
          refine V_istore C dX4_bytes_55 (by decide) ?_
          refine V_aload_n C dX4_bytes_57 (by rfl) ?_
          refine V_get C (ci := 4) hH.1.1 rfl wu_X4 6 (by decide) fl_X4_20 rfl (by rfl) dX4_bytes_58 ?_
          refine V_iload C dX4_bytes_61 (by rfl) ?_
          refine Y_ild C hH rfl (by omega) (by decide) dX4_bytes_63 ?_
          refine V_istore C dX4_bytes_64 (by decide) ?_
          refine V_aload_n C dX4_bytes_66 (by rfl) ?_
          refine V_get C (ci := 4) hH.1.1 rfl wu_X4 6 (by decide) fl_X4_20 rfl (by rfl) dX4_bytes_67 ?_
          refine V_iload C dX4_bytes_70 (by rfl) ?_
          refine V_iload_n C dX4_bytes_72 (by rfl) ?_
          refine V_if_lt C 80 dX4_bytes_73 (by decide) (fun h_73 => ?_) (fun h_73 => ?_)
          · refine V_iload C dX4_bytes_80 (by rfl) ?_
            refine V_top (y := if 0 ≤ v then v else gOc σ (8 * o + j)) (by rw [if_neg (Int32.not_le.mpr h_73)]) ?_
            refine Y_ist C hH (sw σ 1 (va_up (σ.2 1) (8 * o + j) (if 0 ≤ v then v else gOc σ (8 * o + j)))) rfl (by omega) (by decide) rfl (fun _ _ => rfl) ho_6 (fun _ => rfl) dX4_bytes_82 (fun M1 hH => ?_)
            refine V_iload C dX4_bytes_83 (by rfl) ?_
            exact V_iret C hr (by decide) (by decide) dX4_bytes_85 (by rw [show oBytes σ (nI o) (nI j) v = (0, gOc σ (8 * o + j), sw σ 1 (va_up (σ.2 1) (8 * o + j) (if 0 ≤ v then v else gOc σ (8 * o + j)))) by simp only [oBytes, hk, hi, eo, ej]; rw [if_neg (by decide), if_neg (by rintro (h | h | h); exact absurd h (by decide); exact h_22 h; exact absurd h_29 (Int32.not_le.mpr h))]]; exact ⟨rfl, hH⟩)
          · refine V_iload_n C dX4_bytes_76 (by rfl) ?_
            refine V_goto C 82 dX4_bytes_77 (by decide) ?_
            refine V_top (y := if 0 ≤ v then v else gOc σ (8 * o + j)) (by rw [if_pos (Int32.not_lt.mp h_73)]) ?_
            refine Y_ist C hH (sw σ 1 (va_up (σ.2 1) (8 * o + j) (if 0 ≤ v then v else gOc σ (8 * o + j)))) rfl (by omega) (by decide) rfl (fun _ _ => rfl) ho_6 (fun _ => rfl) dX4_bytes_82 (fun M1 hH => ?_)
            refine V_iload C dX4_bytes_83 (by rfl) ?_
            exact V_iret C hr (by decide) (by decide) dX4_bytes_85 (by rw [show oBytes σ (nI o) (nI j) v = (0, gOc σ (8 * o + j), sw σ 1 (va_up (σ.2 1) (8 * o + j) (if 0 ≤ v then v else gOc σ (8 * o + j)))) by simp only [oBytes, hk, hi, eo, ej]; rw [if_neg (by decide), if_neg (by rintro (h | h | h); exact absurd h (by decide); exact h_22 h; exact absurd h_29 (Int32.not_le.mpr h))]]; exact ⟨rfl, hH⟩)
        · refine V_iconst C (nI 2) dX4_bytes_32 (by decide) ?_
          refine V_goto C 37 dX4_bytes_33 (by decide) ?_
          refine VV.loc [(0, .ref mo), (1, .int k), (2, .int i), (3, .int v)] ⟨rfl, rfl, rfl, rfl, trivial⟩ ?_
          exact tlE 2 (by decide) (by decide) (by rw [oBytes, if_neg (by simp [hk]), if_pos (Or.inr (Or.inr (Int32.not_le.mp h_29)))])
  · have hk := b2i_0 h_6
    refine V_iconst C (nI 1) dX4_bytes_9 (by decide) ?_
    refine V_goto C 37 dX4_bytes_10 (by decide) ?_
    refine VV.loc [(0, .ref mo), (1, .int k), (2, .int i), (3, .int v)] ⟨rfl, rfl, rfl, rfl, trivial⟩ ?_
    exact tlE 1 (by decide) (by decide) (by simp [oBytes, hk])
set_option maxHeartbeats 4000000 in
set_option maxRecDepth 100000 in
theorem m_old (l : Launch) (hl : l.stackTraces = false) (base : Nat) (D : va_G) (ct : Nat → ClassId) (sa : Nat → Nat) {B G : Nat → Nat} {σ : Sg} {th : Int32} {M : Mem} {mo K : Nat} (hR : RepM ct B G σ th M mo) (hI : Inv K σ) (hB : K < 600) (k : Int32) :
    CT l yX4_old (.code yX4_old cX4_old 4 (some .int) :: WL) (rmK 2 0 0) base D ct sa M [.ref mo, .int k] (PostM ct B G M mo (oOld σ k)) noX := by
  refine CT.of hl (by decide) (Nat.le_of_ble_eq_true rfl) ?_
  intro p e s m below meth c C hr hx
  have hH : HM ct B G M σ th M mo := hR.hold
  obtain ⟨⟨i1, i2, i3, i4, i5, i6, i7, i8⟩, ⟨t1, t2, t3, t4⟩, ⟨s1, s2, s3, s4⟩, ⟨r1, r2, r3, r4, r5, r6⟩, ⟨v1, v2⟩, v3⟩ := id hI
  refine V_aload_n C dX4_old_0 (by rfl) ?_
  refine V_aload_n C dX4_old_1 (by rfl) ?_
  refine V_iload_n C dX4_old_2 (by rfl) ?_
  refine V_callV C hx (As := [.int k]) (m_isObject l hl base D ct sa hR hI hB k) w_X4_57 hH.1.1 rfl rfl (by decide) (Nat.le_of_ble_eq_true rfl) ⟨by decide, by decide⟩ dX4_old_3 (by decide) (by decide) (fun _ _ h => h) (fun v9 M9 hv9 => ?_)
  obtain ⟨rfl, rfl⟩ := hv9
  refine VV.eqv (st' := [.int (b2i (isO σ k)), .ref mo]) rfl rfl ?_
  refine V_if_eq C 13 dX4_old_6 (by decide) (fun h_6 => ?_) (fun h_6 => ?_)
  · have hk := b2i_0 h_6
    have hce : oOld σ k = (1, 0, σ) := by simp [oOld, hk]
    refine V_iconst C (1) dX4_old_13 (by decide) ?_
    refine Y_put C hH (σ) (1) 0 (by decide) fl_X4_50 rfl rfl (by rfl) (by rfl) (by rfl) rfl dX4_old_14 (fun M1 hH => ?_)
    refine V_iconst C (0) dX4_old_17 (by decide) ?_
    refine V_istore_n C dX4_old_18 (by decide) ?_
    refine V_iconst C (0) dX4_old_19 (by decide) ?_
    refine V_istore_n C dX4_old_20 (by decide) ?_
    refine V_iload_n C dX4_old_21 (by rfl) ?_
    refine V_aload_n C dX4_old_22 (by rfl) ?_
    refine V_get C (ci := 4) hH.1.1 rfl wu_X4 8 (by decide) fl_X4_64 rfl (by rfl) dX4_old_23 ?_
    refine V_icmp_ge C 60 dX4_old_26 (by decide) (fun h_26 => ?_) (fun h_26 => ?_)
    · refine V_iload_n C dX4_old_60 (by rfl) ?_
      exact V_iret C hr (by decide) (by decide) dX4_old_61 ⟨by rw [hce], by rw [hce]; exact hH⟩
    · refine V_aload_n C dX4_old_29 (by rfl) ?_
      refine V_get C (ci := 4) hH.1.1 rfl wu_X4 0 (by decide) fl_X4_50 rfl (by rfl) dX4_old_30 ?_
      refine V_if_ne C 60 dX4_old_33 (by decide) (fun h_33 => ?_) (fun h_33 => absurd h_33 (by decide))
      refine V_iload_n C dX4_old_60 (by rfl) ?_
      exact V_iret C hr (by decide) (by decide) dX4_old_61 ⟨by rw [hce], by rw [hce]; exact hH⟩
  · have hk := b2i_1 h_6
    obtain ⟨o, rfl, ho, ht, eo⟩ := isO_of hk (by omega)
    refine V_iconst C (0) dX4_old_9 (by decide) ?_
    refine V_goto C 14 dX4_old_10 (by decide) ?_
    refine Y_put C hH (σ) (0) 0 (by decide) fl_X4_50 rfl rfl (by rfl) (by rfl) (by rfl) rfl dX4_old_14 (fun M1 hH => ?_)
    refine V_iconst C (0) dX4_old_17 (by decide) ?_
    refine V_istore_n C dX4_old_18 (by decide) ?_
    refine V_iconst C (0) dX4_old_19 (by decide) ?_
    refine V_istore_n C dX4_old_20 (by decide) ?_
    have loop : ∀ d t : Nat, gSv σ ≤ t + d → t ≤ gSv σ → VV p l e (rmK 2 0 0) s m ([.ref mo, .int (nI o)] : List Value).toArray below meth c 4 base D (QB base D (PostM ct B G M9 mo (oOld σ (nI o))) noX below ([.ref mo, .int (nI o)] : List Value).toArray s 0 0) M1 0 0 21 [(0, .ref mo), (1, .int (nI o)), (2, .int (nI (newS σ o t))), (3, .int (nI t))] [] := by
      intro d
      induction d with
      | zero =>
        intro t h1 h2
        have htt : t = gSv σ := by omega
        refine V_iload_n C dX4_old_21 (by rfl) ?_
        refine V_aload_n C dX4_old_22 (by rfl) ?_
        refine V_get C (ci := 4) hH.1.1 rfl wu_X4 8 (by decide) fl_X4_64 rfl (by rfl) dX4_old_23 ?_
        refine V_icmp_ge C 60 dX4_old_26 (by decide) (fun h_26 => ?_) (fun h_26 => absurd h_26 (fun h => h ((nI_leI (by omega) (by omega)).mpr (by omega))))
        refine V_iload_n C dX4_old_60 (by rfl) ?_
        exact V_iret C hr (by decide) (by decide) dX4_old_61 (by rw [show oOld σ (nI o) = (0, nI (newS σ o (gSv σ)), σ) by simp only [oOld, hk, eo]; rfl, ← htt]; exact ⟨rfl, hH⟩)
      | succ d ih =>
        intro t h1 h2
        rcases Nat.lt_or_ge t (gSv σ) with ht2 | ht2
        · refine V_iload_n C dX4_old_21 (by rfl) ?_
          refine V_aload_n C dX4_old_22 (by rfl) ?_
          refine V_get C (ci := 4) hH.1.1 rfl wu_X4 8 (by decide) fl_X4_64 rfl (by rfl) dX4_old_23 ?_
          refine V_icmp_ge C 60 dX4_old_26 (by decide) (fun h_26 => absurd h_26 (fun h => absurd ((nI_leI (by omega) (by omega)).mp h) (by omega))) (fun h_26 => ?_)
          refine V_aload_n C dX4_old_29 (by rfl) ?_
          refine V_get C (ci := 4) hH.1.1 rfl wu_X4 0 (by decide) fl_X4_50 rfl (by rfl) dX4_old_30 ?_
          refine V_if_ne C 60 dX4_old_33 (by decide) (fun h_33 => absurd h_33 (fun h => h rfl)) (fun h_33 => ?_)
          refine V_iload_n C dX4_old_36 (by rfl) ?_
          refine V_aload_n C dX4_old_37 (by rfl) ?_
          refine V_get C (ci := 4) hH.1.1 rfl wu_X4 12 (by decide) fl_X4_29 rfl (by rfl) dX4_old_38 ?_
          refine V_iload_n C dX4_old_41 (by rfl) ?_
          refine Y_ild C hH rfl (by omega) (by decide) dX4_old_42 ?_
          refine V_icmp_lt C 52 dX4_old_43 (by decide) (fun h_43 => ?_) (fun h_43 => ?_)
          · have e9 : newS σ o (t + 1) = newS σ o t := by
              have : ¬ gFst σ t ≤ o := Nat.not_le_of_lt ((nI_ltI (by omega) (by have := s3 t ht2; omega)).mp h_43)
              simp [newS, this]
            refine V_iload_n C dX4_old_52 (by rfl) ?_
            refine V_top (y := nI (newS σ o (t + 1))) (by rw [e9]) ?_
            refine V_istore_n C dX4_old_53 (by decide) ?_
            refine V_inc1 C dX4_old_54 (by rfl) (by decide) ?_
            refine V_goto C 21 dX4_old_57 (by decide) ?_
            refine VV.loc [(0, .ref mo), (1, .int (nI o)), (2, .int (nI (newS σ o (t + 1)))), (3, .int (nI (t + 1)))] ⟨rfl, rfl, rfl, (by rw [← nI_1]; rfl), trivial⟩ ?_
            exact ih (t + 1) (by omega) (by omega)
          · have e9 : newS σ o (t + 1) = newS σ o t + 1 := by
              have : gFst σ t ≤ o := Nat.le_of_not_lt (fun h => h_43 (nI_lt (b := gFst σ t) h (by have := s3 t ht2; omega)))
              simp [newS, this]
            refine V_iload_n C dX4_old_46 (by rfl) ?_
            refine V_iconst C (nI 1) dX4_old_47 (by decide) ?_
            refine V_iadd C dX4_old_48 ?_
            refine V_goto C 53 dX4_old_49 (by decide) ?_
            refine V_top (y := nI (newS σ o (t + 1))) (by rw [e9, nI_add]) ?_
            refine V_istore_n C dX4_old_53 (by decide) ?_
            refine V_inc1 C dX4_old_54 (by rfl) (by decide) ?_
            refine V_goto C 21 dX4_old_57 (by decide) ?_
            refine VV.loc [(0, .ref mo), (1, .int (nI o)), (2, .int (nI (newS σ o (t + 1)))), (3, .int (nI (t + 1)))] ⟨rfl, rfl, rfl, (by rw [← nI_1]; rfl), trivial⟩ ?_
            exact ih (t + 1) (by omega) (by omega)
        · exact ih t (by omega) h2
    refine VV.loc [(0, .ref mo), (1, .int (nI o)), (2, .int (nI (newS σ o 0))), (3, .int (nI 0))] ⟨rfl, rfl, rfl, rfl, trivial⟩ ?_
    exact loop (gSv σ) 0 (by omega) (Nat.zero_le _)
set_option maxHeartbeats 4000000 in
set_option maxRecDepth 100000 in
theorem m_object (l : Launch) (hl : l.stackTraces = false) (base : Nat) (D : va_G) (ct : Nat → ClassId) (sa : Nat → Nat) {B G : Nat → Nat} {σ : Sg} {th : Int32} {M : Mem} {mo K : Nat} (hR : RepM ct B G σ th M mo) (hI : Inv K σ) (hB : K < 600) (g : Int32) (hg : g = 0 ∨ g = 1) :
    CT l yX4_object (.code yX4_object cX4_object 2 (some .int) :: WL) (rmK 1 0 0) base D ct sa M [.ref mo, .int g] (PostM ct B G M mo (oObject σ g)) noX := by
  refine CT.of hl (by decide) (Nat.le_of_ble_eq_true rfl) ?_
  intro p e s m below meth c C hr hx
  have hH : HM ct B G M σ th M mo := hR.hold
  obtain ⟨⟨i1, i2, i3, i4, i5, i6, i7, i8⟩, ⟨t1, t2, t3, t4⟩, ⟨s1, s2, s3, s4⟩, ⟨r1, r2, r3, r4, r5, r6⟩, ⟨v1, v2⟩, v3⟩ := id hI
  have tlE : ∀ cd : Nat, 0 < cd → cd ≤ 3 → oObject σ g = (cd, 0, σ) → VV p l e (rmK 1 0 0) s m ([.ref mo, .int g] : List Value).toArray below meth c 2 base D (QB base D (PostM ct B G M mo (oObject σ g)) noX below ([.ref mo, .int g] : List Value).toArray s 0 0) M 0 0 16 [(0, .ref mo), (1, .int g)] [.int (nI cd), .ref mo] := by
    intro cd hc0 hc3 hce
    refine Y_put C hH (σ) (nI cd) 0 (by decide) fl_X4_50 rfl rfl (by rfl) (by rfl) (by rfl) rfl dX4_object_16 (fun M1 hH => ?_)
    refine V_aload_n C dX4_object_19 (by rfl) ?_
    refine V_get C (ci := 4) hH.1.1 rfl wu_X4 0 (by decide) fl_X4_50 rfl (by rfl) dX4_object_20 ?_
    refine V_if_le C 28 dX4_object_23 (by decide) (fun h_23 => absurd h_23 (nI_nle hc0 (by omega))) (fun h_23 => ?_)
    refine V_iconst C (0) dX4_object_26 (by decide) ?_
    exact V_iret C hr (by decide) (by decide) dX4_object_27 ⟨by rw [hce], by rw [hce]; exact hH⟩
  refine V_aload_n C dX4_object_0 (by rfl) ?_
  refine V_aload_n C dX4_object_1 (by rfl) ?_
  refine V_get C (ci := 4) hH.1.1 rfl wu_X4 2 (by decide) fl_X4_61 rfl (by rfl) dX4_object_2 ?_
  refine V_sipush C (nI 200) dX4_object_5 (by decide) ?_
  refine V_icmp_ne C 15 dX4_object_8 (by decide) (fun h_8 => ?_) (fun h_8 => ?_)
  · have h0 : ¬ gAlive σ = 200 := fun h => h_8 (by rw [h])
    refine V_iconst C (0) dX4_object_15 (by decide) ?_
    refine Y_put C hH (σ) (0) 0 (by decide) fl_X4_50 rfl rfl (by rfl) (by rfl) (by rfl) rfl dX4_object_16 (fun M1 hH => ?_)
    refine V_aload_n C dX4_object_19 (by rfl) ?_
    refine V_get C (ci := 4) hH.1.1 rfl wu_X4 0 (by decide) fl_X4_50 rfl (by rfl) dX4_object_20 ?_
    refine V_if_le C 28 dX4_object_23 (by decide) (fun h_23 => ?_) (fun h_23 => absurd h_23 (fun h => h (Int32.le_refl _)))
    refine V_aload_n C dX4_object_28 (by rfl) ?_
    refine V_get C (ci := 4) hH.1.1 rfl wu_X4 3 (by decide) fl_X4_7 rfl (by rfl) dX4_object_29 ?_
    refine V_aload_n C dX4_object_32 (by rfl) ?_
    refine V_get C (ci := 4) hH.1.1 rfl wu_X4 1 (by decide) fl_X4_54 rfl (by rfl) dX4_object_33 ?_
    refine V_iconst C (1) dX4_object_36 (by decide) ?_
    refine Y_zst C hH (sf σ 2 (va_up (σ.1 2) (gMade σ) 1)) rfl (by omega) (by decide) rfl (fun i _ => nF_up (by decide) i) ho_3 (fun _ => rfl) dX4_object_37 (fun M1 hH => ?_)
    refine V_aload_n C dX4_object_38 (by rfl) ?_
    refine V_get C (ci := 4) hH.1.1 rfl wu_X4 4 (by decide) fl_X4_13 rfl (by rfl) dX4_object_39 ?_
    refine V_aload_n C dX4_object_42 (by rfl) ?_
    refine V_get C (ci := 4) hH.1.1 rfl wu_X4 1 (by decide) fl_X4_54 rfl (by rfl) dX4_object_43 ?_
    refine V_iload_n C dX4_object_46 (by rfl) ?_
    refine Y_zst C hH (sf (sf σ 2 (va_up (σ.1 2) (gMade σ) 1)) 3 (va_up (σ.1 3) (gMade σ) (if g = 0 then 0 else 1))) rfl (show gMade σ < 600 by omega) (by decide) rfl (fun i _ => nF_up (by rcases hg with rfl | rfl <;> decide) i) ho_4 (fun _ => rfl) dX4_object_47 (fun M1 hH => ?_)
    refine V_aload_n C dX4_object_48 (by rfl) ?_
    refine V_dup C dX4_object_49 rfl ?_
    refine V_get C (ci := 4) hH.1.1 rfl wu_X4 2 (by decide) fl_X4_61 rfl (by rfl) dX4_object_50 ?_
    refine V_iconst C (1) dX4_object_53 (by decide) ?_
    refine V_iadd C dX4_object_54 ?_
    refine V_top (y := nI (gAlive σ + 1)) (nI_1 _) ?_
    refine Y_put C hH (sf (sf (sf σ 2 (va_up (σ.1 2) (gMade σ) 1)) 3 (va_up (σ.1 3) (gMade σ) (if g = 0 then 0 else 1))) 1 (sk (gAlive σ + 1))) (0) 2 (by decide) fl_X4_61 rfl rfl (by rfl) (by rfl) (by rfl) os_1 dX4_object_55 (fun M1 hH => ?_)
    refine V_aload_n C dX4_object_58 (by rfl) ?_
    refine V_dup C dX4_object_59 rfl ?_
    refine V_get C (ci := 4) hH.1.1 rfl wu_X4 1 (by decide) fl_X4_54 rfl (by rfl) dX4_object_60 ?_
    refine V_iconst C (1) dX4_object_63 (by decide) ?_
    refine V_iadd C dX4_object_64 ?_
    refine V_top (y := nI (gMade σ + 1)) (nI_1 _) ?_
    refine Y_put C hH (sf (sf (sf (sf σ 2 (va_up (σ.1 2) (gMade σ) 1)) 3 (va_up (σ.1 3) (gMade σ) (if g = 0 then 0 else 1))) 1 (sk (gAlive σ + 1))) 0 (sk (gMade σ + 1))) (0) 1 (by decide) fl_X4_54 rfl rfl (by rfl) (by rfl) (by rfl) os_0 dX4_object_65 (fun M1 hH => ?_)
    refine V_aload_n C dX4_object_68 (by rfl) ?_
    refine V_get C (ci := 4) hH.1.1 rfl wu_X4 1 (by decide) fl_X4_54 rfl (by rfl) dX4_object_69 ?_
    refine V_iconst C (1) dX4_object_72 (by decide) ?_
    refine V_isub C dX4_object_73 ?_
    refine V_top (y := nI (gMade σ)) (nI_pred _) ?_
    exact V_iret C hr (by decide) (by decide) dX4_object_74 (by rw [show oObject σ g = (0, nI (gMade σ), sf (sf (sf (sf σ 2 (va_up (σ.1 2) (gMade σ) 1)) 3 (va_up (σ.1 3) (gMade σ) (if g = 0 then 0 else 1))) 1 (sk (gAlive σ + 1))) 0 (sk (gMade σ + 1))) by rw [oObject, if_neg h0]]; exact ⟨rfl, hH⟩)
  · have h0 : gAlive σ = 200 := (nI_eq (by omega) (by decide)).mp h_8
    refine V_iconst C (nI 1) dX4_object_11 (by decide) ?_
    refine V_goto C 16 dX4_object_12 (by decide) ?_
    refine VV.loc [(0, .ref mo), (1, .int g)] ⟨rfl, rfl, trivial⟩ ?_
    exact tlE 1 (by decide) (by decide) (by rw [oObject, if_pos h0])
