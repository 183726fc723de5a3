/-! the reference: save, push, pop -/
theorem cpy_s {f g : Nat → Int32} {sp dp n : Nat} {x : Int32} (hx : x = f (sp + n)) (j : Nat) : va_up (va_cpy f g sp dp n) (dp + n) x j = va_cpy f g sp dp (n + 1) j := by
  subst hx
  by_cases e : j = dp + n
  · subst e
    rw [va_up_self, pk_cpy_in (by omega) (by omega)]
    congr 1
    omega
  · rw [va_up_ne _ _ e]
    by_cases h : dp ≤ j ∧ j < dp + n
    · rw [pk_cpy_in h.1 h.2, pk_cpy_in h.1 (by omega)]
    · rw [pk_cpy_out (by omega), pk_cpy_out (by omega)]
theorem cpy_0 {f g : Nat → Int32} {sp dp : Nat} : va_cpy f g sp dp 0 = g := by
  funext j
  exact pk_cpy_out (by omega)
set_option maxHeartbeats 4000000 in
set_option maxRecDepth 100000 in
theorem m_save (l : Launch) (hl : l.stackTraces = false) (base : Nat) (D : va_G) (ct : Nat → ClassId) (sa : Nat → Nat) {B G : Nat → Nat} {σ : Sg} {th : Int32} {M : Mem} {mo K : Nat} (hR : RepM ct B G σ th M mo) (hI : Inv K σ) (hB : K < 600)  :
    CT l yX4_save (.code yX4_save cX4_save 2 (some .int) :: WL) (rmK 1 0 0) base D ct sa M [.ref mo] (PostM ct B G M mo (oSave σ)) noX := by
  refine CT.of hl (by decide) (Nat.le_of_ble_eq_true rfl) ?_
  intro p e s m below meth c C hr hx
  have hH : HM ct B G M σ th M mo := hR.hold
  obtain ⟨⟨i1, i2, i3, i4, i5, i6, i7, i8⟩, ⟨t1, t2, t3, t4⟩, ⟨s1, s2, s3, s4⟩, ⟨r1, r2, r3, r4, r5, r6⟩, ⟨v1, v2⟩, v3⟩ := id hI
  have tlE : ∀ cd : Nat, 0 < cd → cd ≤ 3 → oSave σ = (cd, 0, σ) → VV p l e (rmK 1 0 0) s m ([.ref mo] : List Value).toArray below meth c 2 base D (QB base D (PostM ct B G M mo (oSave σ)) noX below ([.ref mo] : List Value).toArray s 0 0) M 0 0 15 [(0, .ref mo)] [.int (nI cd), .ref mo] := by
    intro cd hc0 hc3 hce
    refine Y_put C hH (σ) (nI cd) 0 (by decide) fl_X4_50 rfl rfl (by rfl) (by rfl) (by rfl) rfl dX4_save_15 (fun M1 hH => ?_)
    refine V_aload_n C dX4_save_18 (by rfl) ?_
    refine V_get C (ci := 4) hH.1.1 rfl wu_X4 0 (by decide) fl_X4_50 rfl (by rfl) dX4_save_19 ?_
    refine V_if_le C 27 dX4_save_22 (by decide) (fun h_22 => absurd h_22 (nI_nle hc0 (by omega))) (fun h_22 => ?_)
    refine V_iconst C (0) dX4_save_25 (by decide) ?_
    exact V_iret C hr (by decide) (by decide) dX4_save_26 ⟨by rw [hce], by rw [hce]; exact hH⟩
  refine V_aload_n C dX4_save_0 (by rfl) ?_
  refine V_aload_n C dX4_save_1 (by rfl) ?_
  refine V_get C (ci := 4) hH.1.1 rfl wu_X4 8 (by decide) fl_X4_64 rfl (by rfl) dX4_save_2 ?_
  refine V_bipush C (nI 16) dX4_save_5 (by decide) ?_
  refine V_icmp_ne C 14 dX4_save_7 (by decide) (fun h_7 => ?_) (fun h_7 => ?_)
  · have h16 : ¬ gSv σ = 16 := fun h => h_7 (by rw [h])
    have h15 : gSv σ < 16 := by omega
    have loop : ∀ d t : Nat, 10 ≤ t + d → t ≤ 10 → ∀ M1 : Mem, HM ct B G M (sw (sf (sf (sf (sf (sf σ 5 (sk (gLast σ + 1))) 7 (va_up (σ.1 7) (gSv σ) (gLast σ + 1))) 8 (va_up (σ.1 8) (gSv σ) (gMade σ))) 9 (va_up (σ.1 9) (gSv σ) (gRows σ))) 10 (va_up (σ.1 10) (gSv σ) (gSt σ))) 3 (va_cpy (σ.2 2) (σ.2 3) 0 (10 * gSv σ) t)) 0 M1 mo → VV p l e (rmK 1 0 0) s m ([.ref mo] : List Value).toArray below meth c 2 base D (QB base D (PostM ct B G M mo (oSave σ)) noX below ([.ref mo] : List Value).toArray s 0 0) M1 0 0 91 [(0, .ref mo), (1, .int (nI t))] [] := by
      intro d
      induction d with
      | zero =>
        intro t h1 h2 M1 hH
        have htt : t = 10 := by omega
        subst htt
        refine V_iload_n C dX4_save_91 (by rfl) ?_
        refine V_bipush C (nI 10) dX4_save_92 (by decide) ?_
        refine V_icmp_ge C 123 dX4_save_94 (by decide) (fun h_94 => ?_) (fun h_94 => absurd h_94 (fun h => h (Int32.le_refl _)))
        refine V_aload_n C dX4_save_123 (by rfl) ?_
        refine V_dup C dX4_save_124 rfl ?_
        refine V_get C (ci := 4) hH.1.1 rfl wu_X4 8 (by decide) fl_X4_64 rfl (by rfl) dX4_save_125 ?_
        refine V_iconst C (1) dX4_save_128 (by decide) ?_
        refine V_iadd C dX4_save_129 ?_
        refine V_top (y := nI (gSv σ + 1)) (nI_1 _) ?_
        refine Y_put C hH (sf (sw (sf (sf (sf (sf (sf σ 5 (sk (gLast σ + 1))) 7 (va_up (σ.1 7) (gSv σ) (gLast σ + 1))) 8 (va_up (σ.1 8) (gSv σ) (gMade σ))) 9 (va_up (σ.1 9) (gSv σ) (gRows σ))) 10 (va_up (σ.1 10) (gSv σ) (gSt σ))) 3 (va_cpy (σ.2 2) (σ.2 3) 0 (10 * gSv σ) 10)) 4 (sk (gSv σ + 1))) (0) 8 (by decide) fl_X4_64 rfl rfl (by rfl) (by rfl) (by rfl) os_4 dX4_save_130 (fun M1 hH => ?_)
        refine V_aload_n C dX4_save_133 (by rfl) ?_
        refine V_aload_n C dX4_save_134 (by rfl) ?_
        refine V_get C (ci := 4) hH.1.1 rfl wu_X4 8 (by decide) fl_X4_64 rfl (by rfl) dX4_save_135 ?_
        refine V_aload_n C dX4_save_138 (by rfl) ?_
        refine V_get C (ci := 4) hH.1.1 rfl wu_X4 10 (by decide) fl_X4_86 rfl (by rfl) dX4_save_139 ?_
        refine V_icmp_le C 152 dX4_save_142 (by decide) (fun h_142 => ?_) (fun h_142 => ?_)
        · have h9 : gSv σ + 1 ≤ gDeep σ := (nI_leI (by omega) (by omega)).mp h_142
          refine V_aload_n C dX4_save_152 (by rfl) ?_
          refine V_get C (ci := 4) hH.1.1 rfl wu_X4 10 (by decide) fl_X4_86 rfl (by rfl) dX4_save_153 ?_
          refine V_top (y := nI (max (gDeep σ) (gSv σ + 1))) (show nI (gDeep σ) = _ by rw [Nat.max_eq_left h9]) ?_
          refine Y_put C hH (sf (sf (sw (sf (sf (sf (sf (sf σ 5 (sk (gLast σ + 1))) 7 (va_up (σ.1 7) (gSv σ) (gLast σ + 1))) 8 (va_up (σ.1 8) (gSv σ) (gMade σ))) 9 (va_up (σ.1 9) (gSv σ) (gRows σ))) 10 (va_up (σ.1 10) (gSv σ) (gSt σ))) 3 (va_cpy (σ.2 2) (σ.2 3) 0 (10 * gSv σ) 10)) 4 (sk (gSv σ + 1))) 6 (sk (max (gDeep σ) (gSv σ + 1)))) 0 10 (by decide) fl_X4_86 rfl rfl (by rfl) (by rfl) (by rfl) os_6 dX4_save_156 (fun M1 hH => ?_)
          refine V_aload_n C dX4_save_159 (by rfl) ?_
          refine V_get C (ci := 4) hH.1.1 rfl wu_X4 9 (by decide) fl_X4_80 rfl (by rfl) dX4_save_160 ?_
          exact V_iret C hr (by decide) (by decide) dX4_save_163 (by rw [show oSave σ = (0, nI (gLast σ + 1), sf (sf (sw (sf (sf (sf (sf (sf σ 5 (sk (gLast σ + 1))) 7 (va_up (σ.1 7) (gSv σ) (gLast σ + 1))) 8 (va_up (σ.1 8) (gSv σ) (gMade σ))) 9 (va_up (σ.1 9) (gSv σ) (gRows σ))) 10 (va_up (σ.1 10) (gSv σ) (gSt σ))) 3 (va_cpy (σ.2 2) (σ.2 3) 0 (10 * gSv σ) 10)) 4 (sk (gSv σ + 1))) 6 (sk (max (gDeep σ) (gSv σ + 1)))) by rw [oSave, if_neg h16]]; exact ⟨rfl, hH⟩)
        · have h9 : gDeep σ ≤ gSv σ + 1 := Nat.le_of_lt (Nat.lt_of_not_le (fun h => h_142 (nI_le h (show gDeep σ < 2 ^ 31 by omega))))
          refine V_aload_n C dX4_save_145 (by rfl) ?_
          refine V_get C (ci := 4) hH.1.1 rfl wu_X4 8 (by decide) fl_X4_64 rfl (by rfl) dX4_save_146 ?_
          refine V_goto C 156 dX4_save_149 (by decide) ?_
          refine V_top (y := nI (max (gDeep σ) (gSv σ + 1))) (show nI (gSv σ + 1) = _ by rw [Nat.max_eq_right h9]) ?_
          refine Y_put C hH (sf (sf (sw (sf (sf (sf (sf (sf σ 5 (sk (gLast σ + 1))) 7 (va_up (σ.1 7) (gSv σ) (gLast σ + 1))) 8 (va_up (σ.1 8) (gSv σ) (gMade σ))) 9 (va_up (σ.1 9) (gSv σ) (gRows σ))) 10 (va_up (σ.1 10) (gSv σ) (gSt σ))) 3 (va_cpy (σ.2 2) (σ.2 3) 0 (10 * gSv σ) 10)) 4 (sk (gSv σ + 1))) 6 (sk (max (gDeep σ) (gSv σ + 1)))) 0 10 (by decide) fl_X4_86 rfl rfl (by rfl) (by rfl) (by rfl) os_6 dX4_save_156 (fun M1 hH => ?_)
          refine V_aload_n C dX4_save_159 (by rfl) ?_
          refine V_get C (ci := 4) hH.1.1 rfl wu_X4 9 (by decide) fl_X4_80 rfl (by rfl) dX4_save_160 ?_
          exact V_iret C hr (by decide) (by decide) dX4_save_163 (by rw [show oSave σ = (0, nI (gLast σ + 1), sf (sf (sw (sf (sf (sf (sf (sf σ 5 (sk (gLast σ + 1))) 7 (va_up (σ.1 7) (gSv σ) (gLast σ + 1))) 8 (va_up (σ.1 8) (gSv σ) (gMade σ))) 9 (va_up (σ.1 9) (gSv σ) (gRows σ))) 10 (va_up (σ.1 10) (gSv σ) (gSt σ))) 3 (va_cpy (σ.2 2) (σ.2 3) 0 (10 * gSv σ) 10)) 4 (sk (gSv σ + 1))) 6 (sk (max (gDeep σ) (gSv σ + 1)))) by rw [oSave, if_neg h16]]; exact ⟨rfl, hH⟩)
      | succ d ih =>
        intro t h1 h2 M1 hH
        rcases Nat.lt_or_ge t 10 with ht2 | ht2
        · refine V_iload_n C dX4_save_91 (by rfl) ?_
          refine V_bipush C (nI 10) dX4_save_92 (by decide) ?_
          refine V_icmp_ge C 123 dX4_save_94 (by decide) (fun h_94 => absurd h_94 (fun h => absurd ((nI_leI (by omega) (by omega)).mp h) (by omega))) (fun h_94 => ?_)
          refine V_aload_n C dX4_save_97 (by rfl) ?_
          refine V_get C (ci := 4) hH.1.1 rfl wu_X4 15 (by decide) fl_X4_38 rfl (by rfl) dX4_save_98 ?_
          refine V_bipush C (nI 10) dX4_save_101 (by decide) ?_
          refine V_aload_n C dX4_save_103 (by rfl) ?_
          refine V_get C (ci := 4) hH.1.1 rfl wu_X4 8 (by decide) fl_X4_64 rfl (by rfl) dX4_save_104 ?_
          refine V_imul C dX4_save_107 ?_
          refine V_iload_n C dX4_save_108 (by rfl) ?_
          refine V_iadd C dX4_save_109 ?_
          refine V_top (show nI 10 * nI (gSv σ) + nI t = nI (10 * gSv σ + t) by rw [pk_mul, nI_add]) ?_
          refine V_aload_n C dX4_save_110 (by rfl) ?_
          refine V_get C (ci := 4) hH.1.1 rfl wu_X4 7 (by decide) fl_X4_23 rfl (by rfl) dX4_save_111 ?_
          refine V_iload_n C dX4_save_114 (by rfl) ?_
          refine Y_ild C hH rfl ht2 (by decide) dX4_save_115 ?_
          refine Y_ist C hH (sw (sf (sf (sf (sf (sf σ 5 (sk (gLast σ + 1))) 7 (va_up (σ.1 7) (gSv σ) (gLast σ + 1))) 8 (va_up (σ.1 8) (gSv σ) (gMade σ))) 9 (va_up (σ.1 9) (gSv σ) (gRows σ))) 10 (va_up (σ.1 10) (gSv σ) (gSt σ))) 3 (va_cpy (σ.2 2) (σ.2 3) 0 (10 * gSv σ) (t + 1))) rfl (by omega) (by decide) rfl (fun i _ => cpy_s (show σ.2 2 t = σ.2 2 (0 + t) by rw [Nat.zero_add]) i) (fun q h => (ho_15 q h).trans (ho_15 q h).symm) (fun _ => rfl) dX4_save_116 (fun M1 hH => ?_)
          refine V_inc1 C dX4_save_117 (by rfl) (by decide) ?_
          refine V_goto C 91 dX4_save_120 (by decide) ?_
          refine VV.loc [(0, .ref mo), (1, .int (nI (t + 1)))] ⟨rfl, (by rw [← nI_1]; rfl), trivial⟩ ?_
          exact ih (t + 1) (by omega) (by omega) M1 hH
        · exact ih t (by omega) h2 M1 hH
    refine V_iconst C (0) dX4_save_14 (by decide) ?_
    refine Y_put C hH (σ) (0) 0 (by decide) fl_X4_50 rfl rfl (by rfl) (by rfl) (by rfl) rfl dX4_save_15 (fun M1 hH => ?_)
    refine V_aload_n C dX4_save_18 (by rfl) ?_
    refine V_get C (ci := 4) hH.1.1 rfl wu_X4 0 (by decide) fl_X4_50 rfl (by rfl) dX4_save_19 ?_
    refine V_if_le C 27 dX4_save_22 (by decide) (fun h_22 => ?_) (fun h_22 => absurd h_22 (fun h => h (Int32.le_refl _)))
    refine V_aload_n C dX4_save_27 (by rfl) ?_
    refine V_dup C dX4_save_28 rfl ?_
    refine V_get C (ci := 4) hH.1.1 rfl wu_X4 9 (by decide) fl_X4_80 rfl (by rfl) dX4_save_29 ?_
    refine V_iconst C (1) dX4_save_32 (by decide) ?_
    refine V_iadd C dX4_save_33 ?_
    refine V_top (y := nI (gLast σ + 1)) (nI_1 _) ?_
    refine Y_put C hH (sf σ 5 (sk (gLast σ + 1))) (0) 9 (by decide) fl_X4_80 rfl rfl (by rfl) (by rfl) (by rfl) os_5 dX4_save_34 (fun M1 hH => ?_)
    refine V_aload_n C dX4_save_37 (by rfl) ?_
    refine V_get C (ci := 4) hH.1.1 rfl wu_X4 11 (by decide) fl_X4_26 rfl (by rfl) dX4_save_38 ?_
    refine V_aload_n C dX4_save_41 (by rfl) ?_
    refine V_get C (ci := 4) hH.1.1 rfl wu_X4 8 (by decide) fl_X4_64 rfl (by rfl) dX4_save_42 ?_
    refine V_aload_n C dX4_save_45 (by rfl) ?_
    refine V_get C (ci := 4) hH.1.1 rfl wu_X4 9 (by decide) fl_X4_80 rfl (by rfl) dX4_save_46 ?_
    refine Y_ist C hH (sf (sf σ 5 (sk (gLast σ + 1))) 7 (va_up (σ.1 7) (gSv σ) (gLast σ + 1))) rfl h15 (by decide) rfl (fun i _ => nF_up (c := gLast σ + 1) rfl i) ho_11 (fun _ => rfl) dX4_save_49 (fun M1 hH => ?_)
    refine V_aload_n C dX4_save_50 (by rfl) ?_
    refine V_get C (ci := 4) hH.1.1 rfl wu_X4 12 (by decide) fl_X4_29 rfl (by rfl) dX4_save_51 ?_
    refine V_aload_n C dX4_save_54 (by rfl) ?_
    refine V_get C (ci := 4) hH.1.1 rfl wu_X4 8 (by decide) fl_X4_64 rfl (by rfl) dX4_save_55 ?_
    refine V_aload_n C dX4_save_58 (by rfl) ?_
    refine V_get C (ci := 4) hH.1.1 rfl wu_X4 1 (by decide) fl_X4_54 rfl (by rfl) dX4_save_59 ?_
    refine Y_ist C hH (sf (sf (sf σ 5 (sk (gLast σ + 1))) 7 (va_up (σ.1 7) (gSv σ) (gLast σ + 1))) 8 (va_up (σ.1 8) (gSv σ) (gMade σ))) rfl (show gSv σ < 16 from h15) (by decide) rfl (fun i _ => nF_up (c := gMade σ) rfl i) ho_12 (fun _ => rfl) dX4_save_62 (fun M1 hH => ?_)
    refine V_aload_n C dX4_save_63 (by rfl) ?_
    refine V_get C (ci := 4) hH.1.1 rfl wu_X4 13 (by decide) fl_X4_32 rfl (by rfl) dX4_save_64 ?_
    refine V_aload_n C dX4_save_67 (by rfl) ?_
    refine V_get C (ci := 4) hH.1.1 rfl wu_X4 8 (by decide) fl_X4_64 rfl (by rfl) dX4_save_68 ?_
    refine V_aload_n C dX4_save_71 (by rfl) ?_
    refine V_get C (ci := 4) hH.1.1 rfl wu_X4 16 (by decide) fl_X4_67 rfl (by rfl) dX4_save_72 ?_
    refine Y_ist C hH (sf (sf (sf (sf σ 5 (sk (gLast σ + 1))) 7 (va_up (σ.1 7) (gSv σ) (gLast σ + 1))) 8 (va_up (σ.1 8) (gSv σ) (gMade σ))) 9 (va_up (σ.1 9) (gSv σ) (gRows σ))) rfl (show gSv σ < 16 from h15) (by decide) rfl (fun i _ => nF_up (c := gRows σ) rfl i) ho_13 (fun _ => rfl) dX4_save_75 (fun M1 hH => ?_)
    refine V_aload_n C dX4_save_76 (by rfl) ?_
    refine V_get C (ci := 4) hH.1.1 rfl wu_X4 14 (by decide) fl_X4_35 rfl (by rfl) dX4_save_77 ?_
    refine V_aload_n C dX4_save_80 (by rfl) ?_
    refine V_get C (ci := 4) hH.1.1 rfl wu_X4 8 (by decide) fl_X4_64 rfl (by rfl) dX4_save_81 ?_
    refine V_aload_n C dX4_save_84 (by rfl) ?_
    refine V_get C (ci := 4) hH.1.1 rfl wu_X4 19 (by decide) fl_X4_83 rfl (by rfl) dX4_save_85 ?_
    refine Y_ist C hH (sf (sf (sf (sf (sf σ 5 (sk (gLast σ + 1))) 7 (va_up (σ.1 7) (gSv σ) (gLast σ + 1))) 8 (va_up (σ.1 8) (gSv σ) (gMade σ))) 9 (va_up (σ.1 9) (gSv σ) (gRows σ))) 10 (va_up (σ.1 10) (gSv σ) (gSt σ))) rfl (show gSv σ < 16 from h15) (by decide) rfl (fun i _ => nF_up (c := gSt σ) rfl i) ho_14 (fun _ => rfl) dX4_save_88 (fun M1 hH => ?_)
    refine V_iconst C (0) dX4_save_89 (by decide) ?_
    refine V_istore_n C dX4_save_90 (by decide) ?_
    refine VV.loc [(0, .ref mo), (1, .int (nI 0))] ⟨rfl, rfl, trivial⟩ ?_
    exact loop 10 0 (by omega) (by omega) M1 (hH.eq (show sf (sf (sf (sf (sf σ 5 (sk (gLast σ + 1))) 7 (va_up (σ.1 7) (gSv σ) (gLast σ + 1))) 8 (va_up (σ.1 8) (gSv σ) (gMade σ))) 9 (va_up (σ.1 9) (gSv σ) (gRows σ))) 10 (va_up (σ.1 10) (gSv σ) (gSt σ)) = sw (sf (sf (sf (sf (sf σ 5 (sk (gLast σ + 1))) 7 (va_up (σ.1 7) (gSv σ) (gLast σ + 1))) 8 (va_up (σ.1 8) (gSv σ) (gMade σ))) 9 (va_up (σ.1 9) (gSv σ) (gRows σ))) 10 (va_up (σ.1 10) (gSv σ) (gSt σ))) 3 (va_cpy (σ.2 2) (σ.2 3) 0 (10 * gSv σ) 0) by rw [cpy_0]; exact (sw_id (sf (sf (sf (sf (sf σ 5 (sk (gLast σ + 1))) 7 (va_up (σ.1 7) (gSv σ) (gLast σ + 1))) 8 (va_up (σ.1 8) (gSv σ) (gMade σ))) 9 (va_up (σ.1 9) (gSv σ) (gRows σ))) 10 (va_up (σ.1 10) (gSv σ) (gSt σ))) 3).symm))
  · have h16 : gSv σ = 16 := (nI_eq (by omega) (by decide)).mp h_7
    refine V_iconst C (nI 1) dX4_save_10 (by decide) ?_
    refine V_goto C 15 dX4_save_11 (by decide) ?_
    refine VV.loc [(0, .ref mo)] ⟨rfl, trivial⟩ ?_
    exact tlE 1 (by decide) (by decide) (by rw [oSave, if_pos h16])
set_option maxHeartbeats 4000000 in
set_option maxRecDepth 100000 in
theorem m_push (l : Launch) (hl : l.stackTraces = false) (base : Nat) (D : va_G) (ct : Nat → ClassId) (sa : Nat → Nat) {B G : Nat → Nat} {σ : Sg} {th : Int32} {M : Mem} {mo K : Nat} (hR : RepM ct B G σ th M mo) (hI : Inv K σ) (hB : K < 600)  :
    CT l yX4_push (.code yX4_push cX4_push 2 (some .int) :: WL) (rmK 2 0 0) base D ct sa M [.ref mo] (PostM ct B G M mo (oPush σ)) noX := by
  refine CT.of hl (by decide) (Nat.le_of_ble_eq_true rfl) ?_
  intro p e s m below meth c C hr hx
  have hH : HM ct B G M σ th M mo := hR.hold
  obtain ⟨⟨i1, i2, i3, i4, i5, i6, i7, i8⟩, ⟨t1, t2, t3, t4⟩, ⟨s1, s2, s3, s4⟩, ⟨r1, r2, r3, r4, r5, r6⟩, ⟨v1, v2⟩, v3⟩ := id hI
  have tlE : ∀ cd : Nat, 0 < cd → cd ≤ 3 → oPush σ = (cd, 0, σ) → VV p l e (rmK 2 0 0) s m ([.ref mo] : List Value).toArray below meth c 2 base D (QB base D (PostM ct B G M mo (oPush σ)) noX below ([.ref mo] : List Value).toArray s 0 0) M 0 0 15 [(0, .ref mo)] [.int (nI cd), .ref mo] := by
    intro cd hc0 hc3 hce
    refine Y_put C hH (σ) (nI cd) 0 (by decide) fl_X4_50 rfl rfl (by rfl) (by rfl) (by rfl) rfl dX4_push_15 (fun M1 hH => ?_)
    refine V_aload_n C dX4_push_18 (by rfl) ?_
    refine V_get C (ci := 4) hH.1.1 rfl wu_X4 0 (by decide) fl_X4_50 rfl (by rfl) dX4_push_19 ?_
    refine V_if_le C 27 dX4_push_22 (by decide) (fun h_22 => absurd h_22 (nI_nle hc0 (by omega))) (fun h_22 => ?_)
    refine V_iconst C (0) dX4_push_25 (by decide) ?_
    exact V_iret C hr (by decide) (by decide) dX4_push_26 ⟨by rw [hce], by rw [hce]; exact hH⟩
  refine V_aload_n C dX4_push_0 (by rfl) ?_
  refine V_aload_n C dX4_push_1 (by rfl) ?_
  refine V_get C (ci := 4) hH.1.1 rfl wu_X4 19 (by decide) fl_X4_83 rfl (by rfl) dX4_push_2 ?_
  refine V_bipush C (nI 30) dX4_push_5 (by decide) ?_
  refine V_icmp_ne C 14 dX4_push_7 (by decide) (fun h_7 => ?_) (fun h_7 => ?_)
  · have h30 : ¬ gSt σ = 30 := fun h => h_7 (by rw [h])
    have h29 : gSt σ < 30 := by omega
    have ho9 : ownS (sf (sw σ 5 (va_cpy (σ.2 2) (σ.2 5) 0 (8 * gSt σ) 8)) 13 (sk (gSt σ + 1))) = ownS σ + 1 := by
      show (if gSv σ = 0 then gSt σ + 1 else gSt σ + 1 - gSb σ (gSv σ - 1)) = (if gSv σ = 0 then gSt σ else gSt σ - gSb σ (gSv σ - 1)) + 1
      split
      · rfl
      · have := r3 (gSv σ - 1) (by omega)
        omega
    have loop : ∀ d t : Nat, 8 ≤ t + d → t ≤ 8 → ∀ M1 : Mem, HM ct B G M (sw σ 5 (va_cpy (σ.2 2) (σ.2 5) 0 (8 * gSt σ) t)) 0 M1 mo → VV p l e (rmK 2 0 0) s m ([.ref mo] : List Value).toArray below meth c 2 base D (QB base D (PostM ct B G M mo (oPush σ)) noX below ([.ref mo] : List Value).toArray s 0 0) M1 0 0 29 [(0, .ref mo), (1, .int (nI t))] [] := by
      intro d
      induction d with
      | zero =>
        intro t h1 h2 M1 hH
        have htt : t = 8 := by omega
        subst htt
        refine V_iload_n C dX4_push_29 (by rfl) ?_
        refine V_bipush C (nI 8) dX4_push_30 (by decide) ?_
        refine V_icmp_ge C 61 dX4_push_32 (by decide) (fun h_32 => ?_) (fun h_32 => absurd h_32 (fun h => h (Int32.le_refl _)))
        refine V_aload_n C dX4_push_61 (by rfl) ?_
        refine V_dup C dX4_push_62 rfl ?_
        refine V_get C (ci := 4) hH.1.1 rfl wu_X4 19 (by decide) fl_X4_83 rfl (by rfl) dX4_push_63 ?_
        refine V_iconst C (1) dX4_push_66 (by decide) ?_
        refine V_iadd C dX4_push_67 ?_
        refine V_top (y := nI (gSt σ + 1)) (nI_1 _) ?_
        refine Y_put C hH (sf (sw σ 5 (va_cpy (σ.2 2) (σ.2 5) 0 (8 * gSt σ) 8)) 13 (sk (gSt σ + 1))) (0) 19 (by decide) fl_X4_83 rfl rfl (by rfl) (by rfl) (by rfl) os_13 dX4_push_68 (fun M1 hH => ?_)
        refine V_aload_n C dX4_push_71 (by rfl) ?_
        refine V_callV C hx (As := []) (m_ownStates l hl base D ct sa hH.1 i5 (fun h => Nat.le_succ_of_le (r3 (gSv σ - 1) (Nat.sub_lt h Nat.one_pos)))) w_X4_99 hH.1.1 rfl rfl (by decide) (Nat.le_of_ble_eq_true rfl) ⟨by decide, by decide⟩ dX4_push_72 (by decide) (by decide) (fun _ _ h => h) (fun v9 M9 hv9 => ?_)
        obtain ⟨rfl, rfl⟩ := hv9
        refine VV.eqv (st' := [.int (nI (ownS (sf (sw σ 5 (va_cpy (σ.2 2) (σ.2 5) 0 (8 * gSt σ) 8)) 13 (sk (gSt σ + 1)))))]) rfl rfl ?_
        exact V_iret C hr (by decide) (by decide) dX4_push_75 (by rw [show oPush σ = (0, nI (ownS σ + 1), sf (sw σ 5 (va_cpy (σ.2 2) (σ.2 5) 0 (8 * gSt σ) 8)) 13 (sk (gSt σ + 1))) by rw [oPush, if_neg h30]]; exact ⟨by rw [ho9], hH⟩)
      | succ d ih =>
        intro t h1 h2 M1 hH
        rcases Nat.lt_or_ge t 8 with ht2 | ht2
        · refine V_iload_n C dX4_push_29 (by rfl) ?_
          refine V_bipush C (nI 8) dX4_push_30 (by decide) ?_
          refine V_icmp_ge C 61 dX4_push_32 (by decide) (fun h_32 => absurd h_32 (fun h => absurd ((nI_leI (by omega) (by omega)).mp h) (by omega))) (fun h_32 => ?_)
          refine V_aload_n C dX4_push_35 (by rfl) ?_
          refine V_get C (ci := 4) hH.1.1 rfl wu_X4 20 (by decide) fl_X4_47 rfl (by rfl) dX4_push_36 ?_
          refine V_bipush C (nI 8) dX4_push_39 (by decide) ?_
          refine V_aload_n C dX4_push_41 (by rfl) ?_
          refine V_get C (ci := 4) hH.1.1 rfl wu_X4 19 (by decide) fl_X4_83 rfl (by rfl) dX4_push_42 ?_
          refine V_imul C dX4_push_45 ?_
          refine V_iload_n C dX4_push_46 (by rfl) ?_
          refine V_iadd C dX4_push_47 ?_
          refine V_top (show nI 8 * nI (gSt σ) + nI t = nI (8 * gSt σ + t) by rw [pk_mul, nI_add]) ?_
          refine V_aload_n C dX4_push_48 (by rfl) ?_
          refine V_get C (ci := 4) hH.1.1 rfl wu_X4 7 (by decide) fl_X4_23 rfl (by rfl) dX4_push_49 ?_
          refine V_iload_n C dX4_push_52 (by rfl) ?_
          refine Y_ild C hH rfl (show t < 10 by omega) (by decide) dX4_push_53 ?_
          refine Y_ist C hH (sw σ 5 (va_cpy (σ.2 2) (σ.2 5) 0 (8 * gSt σ) (t + 1))) rfl (by omega) (by decide) rfl (fun i _ => cpy_s (show σ.2 2 t = σ.2 2 (0 + t) by rw [Nat.zero_add]) i) (fun q h => (ho_20 q h).trans (ho_20 q h).symm) (fun _ => rfl) dX4_push_54 (fun M1 hH => ?_)
          refine V_inc1 C dX4_push_55 (by rfl) (by decide) ?_
          refine V_goto C 29 dX4_push_58 (by decide) ?_
          refine VV.loc [(0, .ref mo), (1, .int (nI (t + 1)))] ⟨rfl, (by rw [← nI_1]; rfl), trivial⟩ ?_
          exact ih (t + 1) (by omega) (by omega) M1 hH
        · exact ih t (by omega) h2 M1 hH
    refine V_iconst C (0) dX4_push_14 (by decide) ?_
    refine Y_put C hH (σ) (0) 0 (by decide) fl_X4_50 rfl rfl (by rfl) (by rfl) (by rfl) rfl dX4_push_15 (fun M1 hH => ?_)
    refine V_aload_n C dX4_push_18 (by rfl) ?_
    refine V_get C (ci := 4) hH.1.1 rfl wu_X4 0 (by decide) fl_X4_50 rfl (by rfl) dX4_push_19 ?_
    refine V_if_le C 27 dX4_push_22 (by decide) (fun h_22 => ?_) (fun h_22 => absurd h_22 (fun h => h (Int32.le_refl _)))
    refine V_iconst C (0) dX4_push_27 (by decide) ?_
    refine V_istore_n C dX4_push_28 (by decide) ?_
    refine VV.loc [(0, .ref mo), (1, .int (nI 0))] ⟨rfl, rfl, trivial⟩ ?_
    exact loop 8 0 (by omega) (by omega) M1 (hH.eq (show σ = sw σ 5 (va_cpy (σ.2 2) (σ.2 5) 0 (8 * gSt σ) 0) by rw [cpy_0]; exact (sw_id σ 5).symm))
  · have h30 : gSt σ = 30 := (nI_eq (by omega) (by decide)).mp h_7
    refine V_iconst C (nI 1) dX4_push_10 (by decide) ?_
    refine V_goto C 15 dX4_push_11 (by decide) ?_
    refine VV.loc [(0, .ref mo)] ⟨rfl, trivial⟩ ?_
    exact tlE 1 (by decide) (by decide) (by rw [oPush, if_pos h30])
set_option maxHeartbeats 4000000 in
set_option maxRecDepth 100000 in
theorem m_pop (l : Launch) (hl : l.stackTraces = false) (base : Nat) (D : va_G) (ct : Nat → ClassId) (sa : Nat → Nat) {B G : Nat → Nat} {σ : Sg} {th : Int32} {M : Mem} {mo K : Nat} (hR : RepM ct B G σ th M mo) (hI : Inv K σ) (hB : K < 600)  :
    CT l yX4_pop (.code yX4_pop cX4_pop 2 (some .int) :: WL) (rmK 2 0 0) base D ct sa M [.ref mo] (PostM ct B G M mo (0, oPop σ)) noX := by
  refine CT.of hl (by decide) (Nat.le_of_ble_eq_true rfl) ?_
  intro p e s m below meth c C hr hx
  have hH : HM ct B G M σ th M mo := hR.hold
  obtain ⟨⟨i1, i2, i3, i4, i5, i6, i7, i8⟩, ⟨t1, t2, t3, t4⟩, ⟨s1, s2, s3, s4⟩, ⟨r1, r2, r3, r4, r5, r6⟩, ⟨v1, v2⟩, v3⟩ := id hI
  have hown : ownS σ < 2 ^ 31 := by unfold ownS; split <;> omega
  refine V_aload_n C dX4_pop_0 (by rfl) ?_
  refine V_iconst C (0) dX4_pop_1 (by decide) ?_
  refine Y_put C hH (σ) (0) 0 (by decide) fl_X4_50 rfl rfl (by rfl) (by rfl) (by rfl) rfl dX4_pop_2 (fun M1 hH => ?_)
  refine V_aload_n C dX4_pop_5 (by rfl) ?_
  refine V_callV C hx (As := []) (m_ownStates l hl base D ct sa hH.1 i5 (fun h => r3 (gSv σ - 1) (by omega))) w_X4_99 hH.1.1 rfl rfl (by decide) (Nat.le_of_ble_eq_true rfl) ⟨by decide, by decide⟩ dX4_pop_6 (by decide) (by decide) (fun _ _ h => h) (fun v9 M9 hv9 => ?_)
  obtain ⟨rfl, rfl⟩ := hv9
  refine VV.eqv (st' := [.int (nI (ownS σ))]) rfl rfl ?_
  refine V_if_ne C 14 dX4_pop_9 (by decide) (fun h_9 => ?_) (fun h_9 => ?_)
  · have h0 : ¬ ownS σ = 0 := fun h => h_9 (by rw [h]; exact nI_0)
    have hst : 0 < gSt σ ∧ (0 < gSv σ → gSb σ (gSv σ - 1) < gSt σ) := by
      unfold ownS at h0
      split at h0 <;> exact ⟨by omega, fun _ => by omega⟩
    have hle9 : 0 < gSv σ → gSb σ (gSv σ - 1) ≤ gSt σ - 1 := fun h => by have := hst.2 h; omega
    have ho9 : ownS (sw (sf σ 13 (sk (gSt σ - 1))) 2 (va_cpy (σ.2 5) (σ.2 2) (8 * (gSt σ - 1)) 0 8)) = ownS σ - 1 := by
      show (if gSv σ = 0 then gSt σ - 1 else gSt σ - 1 - gSb σ (gSv σ - 1)) = (if gSv σ = 0 then gSt σ else gSt σ - gSb σ (gSv σ - 1)) - 1
      split <;> omega
    have loop : ∀ d t : Nat, 8 ≤ t + d → t ≤ 8 → ∀ M1 : Mem, HM ct B G M (sw (sf σ 13 (sk (gSt σ - 1))) 2 (va_cpy (σ.2 5) (σ.2 2) (8 * (gSt σ - 1)) 0 t)) 0 M1 mo → VV p l e (rmK 2 0 0) s m ([.ref mo] : List Value).toArray below meth c 2 base D (QB base D (PostM ct B G M mo (0, oPop σ)) noX below ([.ref mo] : List Value).toArray s 0 0) M1 0 0 26 [(0, .ref mo), (1, .int (nI t))] [] := by
      intro d
      induction d with
      | zero =>
        intro t h1 h2 M1 hH
        have htt : t = 8 := by omega
        subst htt
        refine V_iload_n C dX4_pop_26 (by rfl) ?_
        refine V_bipush C (nI 8) dX4_pop_27 (by decide) ?_
        refine V_icmp_ge C 58 dX4_pop_29 (by decide) (fun h_29 => ?_) (fun h_29 => absurd h_29 (fun h => h (Int32.le_refl _)))
        refine V_aload_n C dX4_pop_58 (by rfl) ?_
        refine V_callV C hx (As := []) (m_ownStates l hl base D ct sa hH.1 i5 hle9) w_X4_99 hH.1.1 rfl rfl (by decide) (Nat.le_of_ble_eq_true rfl) ⟨by decide, by decide⟩ dX4_pop_59 (by decide) (by decide) (fun _ _ h => h) (fun v9 M9 hv9 => ?_)
        obtain ⟨rfl, rfl⟩ := hv9
        refine VV.eqv (st' := [.int (nI (ownS (sw (sf σ 13 (sk (gSt σ - 1))) 2 (va_cpy (σ.2 5) (σ.2 2) (8 * (gSt σ - 1)) 0 8))))]) rfl rfl ?_
        exact V_iret C hr (by decide) (by decide) dX4_pop_62 (by rw [show oPop σ = (nI (ownS σ - 1), sw (sf σ 13 (sk (gSt σ - 1))) 2 (va_cpy (σ.2 5) (σ.2 2) (8 * (gSt σ - 1)) 0 8)) by rw [oPop, if_neg h0]]; exact ⟨by rw [ho9], hH⟩)
      | succ d ih =>
        intro t h1 h2 M1 hH
        rcases Nat.lt_or_ge t 8 with ht2 | ht2
        · refine V_iload_n C dX4_pop_26 (by rfl) ?_
          refine V_bipush C (nI 8) dX4_pop_27 (by decide) ?_
          refine V_icmp_ge C 58 dX4_pop_29 (by decide) (fun h_29 => absurd h_29 (fun h => absurd ((nI_leI (by omega) (by omega)).mp h) (by omega))) (fun h_29 => ?_)
          refine V_aload_n C dX4_pop_32 (by rfl) ?_
          refine V_get C (ci := 4) hH.1.1 rfl wu_X4 7 (by decide) fl_X4_23 rfl (by rfl) dX4_pop_33 ?_
          refine V_iload_n C dX4_pop_36 (by rfl) ?_
          refine V_aload_n C dX4_pop_37 (by rfl) ?_
          refine V_get C (ci := 4) hH.1.1 rfl wu_X4 20 (by decide) fl_X4_47 rfl (by rfl) dX4_pop_38 ?_
          refine V_bipush C (nI 8) dX4_pop_41 (by decide) ?_
          refine V_aload_n C dX4_pop_43 (by rfl) ?_
          refine V_get C (ci := 4) hH.1.1 rfl wu_X4 19 (by decide) fl_X4_83 rfl (by rfl) dX4_pop_44 ?_
          refine V_imul C dX4_pop_47 ?_
          refine V_iload_n C dX4_pop_48 (by rfl) ?_
          refine V_iadd C dX4_pop_49 ?_
          refine V_top (show nI 8 * nI (gSt σ - 1) + nI t = nI (8 * (gSt σ - 1) + t) by rw [pk_mul, nI_add]) ?_
          refine Y_ild C hH rfl (show 8 * (gSt σ - 1) + t < 240 by omega) (by decide) dX4_pop_50 ?_
          refine Y_ist C hH (sw (sf σ 13 (sk (gSt σ - 1))) 2 (va_cpy (σ.2 5) (σ.2 2) (8 * (gSt σ - 1)) 0 (t + 1))) rfl (show t < 10 by omega) (by decide) rfl (fun i _ => by have h := cpy_s (g := σ.2 2) (dp := 0) (show σ.2 5 (8 * (gSt σ - 1) + t) = σ.2 5 (8 * (gSt σ - 1) + t) from rfl) i; rw [Nat.zero_add] at h; exact h) (fun q h => (ho_7 q h).trans (ho_7 q h).symm) (fun _ => rfl) dX4_pop_51 (fun M1 hH => ?_)
          refine V_inc1 C dX4_pop_52 (by rfl) (by decide) ?_
          refine V_goto C 26 dX4_pop_55 (by decide) ?_
          refine VV.loc [(0, .ref mo), (1, .int (nI (t + 1)))] ⟨rfl, (by rw [← nI_1]; rfl), trivial⟩ ?_
          exact ih (t + 1) (by omega) (by omega) M1 hH
        · exact ih t (by omega) h2 M1 hH
    refine V_aload_n C dX4_pop_14 (by rfl) ?_
    refine V_dup C dX4_pop_15 rfl ?_
    refine V_get C (ci := 4) hH.1.1 rfl wu_X4 19 (by decide) fl_X4_83 rfl (by rfl) dX4_pop_16 ?_
    refine V_iconst C (1) dX4_pop_19 (by decide) ?_
    refine V_isub C dX4_pop_20 ?_
    refine V_top (show nI (gSt σ) - nI 1 = nI (gSt σ - 1) from pk_sub hst.1) ?_
    refine Y_put C hH (sf σ 13 (sk (gSt σ - 1))) (0) 19 (by decide) fl_X4_83 rfl rfl (by rfl) (by rfl) (by rfl) os_13 dX4_pop_21 (fun M1 hH => ?_)
    refine V_iconst C (0) dX4_pop_24 (by decide) ?_
    refine V_istore_n C dX4_pop_25 (by decide) ?_
    refine VV.loc [(0, .ref mo), (1, .int (nI 0))] ⟨rfl, rfl, trivial⟩ ?_
    exact loop 8 0 (by omega) (by omega) M1 (hH.eq (show sf σ 13 (sk (gSt σ - 1)) = sw (sf σ 13 (sk (gSt σ - 1))) 2 (va_cpy (σ.2 5) (σ.2 2) (8 * (gSt σ - 1)) 0 0) by rw [cpy_0]; exact (sw_id (sf σ 13 (sk (gSt σ - 1))) 2).symm))
  · have h0 : ownS σ = 0 := Nat.eq_zero_of_not_pos (fun h => nI_ne0 h hown h_9)
    refine V_iconst C (-1) dX4_pop_12 (by decide) ?_
    exact V_iret C hr (by decide) (by decide) dX4_pop_13 (by rw [show oPop σ = (-1, σ) by rw [oPop, if_pos h0]]; exact ⟨rfl, hH⟩)
