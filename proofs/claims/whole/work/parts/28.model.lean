/-! SaveRestoreModel() -/
/-- the constructor's picture: the arrays L (field, kind, length) are made -/
def CN (ct : Nat → ClassId) (M0 : Mem) (mo : Nat) (L : List (Nat × Nat × Nat)) (fs : List Value) (B G : Nat → Nat) (M : Mem) : Prop :=
  M mo = some (.inr (4, fs)) ∧ G mo = 1 ∧ (∀ e ∈ L, G (B e.1) = e.1 + 2 ∧ M (B e.1) = some (.inl (ct e.2.1, e.2.2, .inl (fun _ => 0)))) ∧ (∀ a, G a ≠ 0 → (a = mo ∨ M0 a = none) ∧ M a ≠ none) ∧ (∀ a, a ≠ mo → M0 a ≠ none → M a = M0 a)
theorem CN.step {ct : Nat → ClassId} {M0 : Mem} {mo : Nat} {L : List (Nat × Nat × Nat)} {fs fs' : List Value} {B G : Nat → Nat} {M : Mem} (h : CN ct M0 mo L fs B G M) {q j t N : Nat} (fq : M q = none) (hj : ∀ e ∈ L, e.1 ≠ j) : CN ct M0 mo ((j, t, N) :: L) fs' (va_up B j q) (va_up G q (j + 2)) (mput (mput M q (.inl (ct t, N, .inl (fun _ => 0)))) mo (.inr (4, fs'))) := by
  obtain ⟨h1, h2, h3, h4, h5⟩ := h
  have hne : mo ≠ q := some_ne h1 fq
  refine ⟨mput_eq _ _ _, by rw [va_up_ne _ _ hne]; exact h2, fun e he => ?_, fun a ha => ?_, fun a h6 h7 => ?_⟩
  · rcases List.mem_cons.mp he with rfl | he
    · show va_up G q (j + 2) (va_up B j q j) = j + 2 ∧ _
      rw [va_up_self, va_up_self, mput_ne hne.symm, mput_eq]
      exact ⟨rfl, rfl⟩
    · obtain ⟨g1, g2⟩ := h3 e he
      rw [va_up_ne _ _ (hj e he), va_up_ne _ _ (some_ne g2 fq), mput_ne (ne_tag g1 h2 (by omega)), mput_ne (some_ne g2 fq)]
      exact ⟨g1, g2⟩
  · by_cases e1 : a = q
    · subst e1
      refine ⟨Or.inr ?_, by rw [mput_ne hne.symm, mput_eq]; exact fun h => by cases h⟩
      cases hq : M0 a with
      | none => rfl
      | some e => exact absurd (h5 a hne.symm (by rw [hq]; exact fun h => by cases h)) (by rw [fq, hq]; exact fun h => by cases h)
    · rw [va_up_ne _ _ e1] at ha
      obtain ⟨g1, g2⟩ := h4 a ha
      refine ⟨g1, ?_⟩
      by_cases e2 : a = mo
      · rw [e2, mput_eq]; exact fun h => by cases h
      · rw [mput_ne e2, mput_ne e1]; exact g2
  · have hq : a ≠ q := fun e => by
      rw [e] at h7 h6
      have := h5 q h6 h7
      rw [fq] at this
      exact h7 this.symm
    rw [mput_ne h6, mput_ne hq]; exact h5 a h6 h7
abbrev LN : List (Nat × Nat × Nat) := [(20, 0, 240), (18, 0, 600), (17, 0, 600), (15, 0, 160), (14, 0, 16), (13, 0, 16), (12, 0, 16), (11, 0, 16), (7, 0, 10), (6, 0, 4800), (5, 0, 4800), (4, 1, 600), (3, 1, 600)]
theorem CN.rep {ct : Nat → ClassId} {M0 : Mem} {mo : Nat} {fs : List Value} {B G : Nat → Nat} {M : Mem} (h : CN ct M0 mo LN fs B G M) (hf : fs = moL B sZ 0) : RepM ct B G sZ 0 M mo := by
  obtain ⟨n1, n2, n3, n4, n5⟩ := h
  refine ⟨by rw [← hf]; exact n1, ⟨n2, fun a ha => (n4 a ha).2⟩, fun k t N g hk => ?_⟩
  have hz : (k, t, N) ∈ LN ∧ ∀ j, g j = 0 := by
    unfold arM at hk
    split at hk
    all_goals first | (cases hk; exact ⟨by decide, fun _ => rfl⟩) | cases hk
  obtain ⟨e2, e1⟩ := hz
  obtain ⟨g1, g2⟩ := n3 _ e2
  exact ⟨g1, _, g2, fun j _ => (e1 j).symm⟩
section
variable {p : Program} {l : Launch} {e : Env} {R : Room} {s : State} {m : MethodId} {args : Array Value} {below : List Frame} {meth : Method} {c : Code} {cc : ByteArray} {nL base : Nat} {own : String} {D : va_G} {ct : Nat → ClassId} {sa : Nat → Nat} {Q : State → Prop} {M : Mem} {k n pc : Nat} {lv : List (Nat × Value)} {st : List Value}
theorem Z_int (C : Cx p l s m args meth c cc nL RX4 base D ct sa) (hnm : meth.name = "<init>") {M0 : Mem} {mo : Nat} {L : List (Nat × Nat × Nat)} {fs : List Value} {B G : Nat → Nat} (hN : CN ct M0 mo L fs B G M) (j N : Nat) {index : Nat} {ref : String} (hj : j < 21) (hjL : ∀ e ∈ L, e.1 ≠ j) (hl : Cond.fieldLink RX4 index ref (TX4 j).2.1 (TX4 j).2.2.1 ∈ WL) (href : (TX4 j).1 = ref) (hfin : (TX4 j).2.2.2 = true) (hown : (TX4 j).1 = RX4) (hty : ∀ q : Nat, narrow (tyX4 j) (.ref q) = .ref q ∧ fits (tyX4 j) (.ref q) = true) (hlen : fs.length = 21) (hz : ¬ nI N < 0) (hNn : (nI N).toNatClampNeg = N) (hb : N * componentBytes .int ≤ 536870912) (hk : k + 1 ≤ R.cells) (hs : n + N ≤ R.slots) (hd : decode cc pc = .ok (.newarray .int, 2)) (hd2 : decode cc (pc + 2) = .ok (.putfield index, 3))
    (kk : ∀ (q : Nat) (M' : Mem), CN ct M0 mo ((j, 0, N) :: L) (fs.set j (.ref q)) (va_up B j q) (va_up G q (j + 2)) M' → VV p l e R s m args below meth c nL base D Q M' (k + 1) (n + N) (pc + 2 + 3) lv st) : VV p l e R s m args below meth c nL base D Q M k n pc lv (.int (nI N) :: .ref mo :: st) := by
  refine V_newI C N ac_int hz hNn hb hk hs hd (fun q fq => ?_)
  have hne : mo ≠ q := some_ne hN.1 fq
  refine V_putF C (ci := 4) ((mput_ne hne).trans hN.1) rfl wu_X4 j hj hl href tyX4 tyX4_ok nmX4 hfin hnm hown (hty q).1 (hty q).2 (by rw [hlen]; exact hj) hd2 ?_
  exact kk q _ (hN.step fq hjL)
theorem Z_bool (C : Cx p l s m args meth c cc nL RX4 base D ct sa) (hnm : meth.name = "<init>") {M0 : Mem} {mo : Nat} {L : List (Nat × Nat × Nat)} {fs : List Value} {B G : Nat → Nat} (hN : CN ct M0 mo L fs B G M) (j N : Nat) {index : Nat} {ref : String} (hj : j < 21) (hjL : ∀ e ∈ L, e.1 ≠ j) (hl : Cond.fieldLink RX4 index ref (TX4 j).2.1 (TX4 j).2.2.1 ∈ WL) (href : (TX4 j).1 = ref) (hfin : (TX4 j).2.2.2 = true) (hown : (TX4 j).1 = RX4) (hty : ∀ q : Nat, narrow (tyX4 j) (.ref q) = .ref q ∧ fits (tyX4 j) (.ref q) = true) (hlen : fs.length = 21) (hz : ¬ nI N < 0) (hNn : (nI N).toNatClampNeg = N) (hb : N * componentBytes .boolean ≤ 536870912) (hk : k + 1 ≤ R.cells) (hs : n + N ≤ R.slots) (hd : decode cc pc = .ok (.newarray .boolean, 2)) (hd2 : decode cc (pc + 2) = .ok (.putfield index, 3))
    (kk : ∀ (q : Nat) (M' : Mem), CN ct M0 mo ((j, 1, N) :: L) (fs.set j (.ref q)) (va_up B j q) (va_up G q (j + 2)) M' → VV p l e R s m args below meth c nL base D Q M' (k + 1) (n + N) (pc + 2 + 3) lv st) : VV p l e R s m args below meth c nL base D Q M k n pc lv (.int (nI N) :: .ref mo :: st) := by
  refine V_newZ C N ac_boolean hz hNn hb hk hs hd (fun q fq => ?_)
  have hne : mo ≠ q := some_ne hN.1 fq
  refine V_putF C (ci := 4) ((mput_ne hne).trans hN.1) rfl wu_X4 j hj hl href tyX4 tyX4_ok nmX4 hfin hnm hown (hty q).1 (hty q).2 (by rw [hlen]; exact hj) hd2 ?_
  exact kk q _ (hN.step fq hjL)
end
set_option maxHeartbeats 4000000 in
set_option maxRecDepth 100000 in
theorem m_init (l : Launch) (hl : l.stackTraces = false) (base : Nat) (D : va_G) (ct : Nat → ClassId) (sa : Nat → Nat) {M : Mem} {mo : Nat} (hm : M mo = some (.inr (4, [.int 0, .int 0, .int 0, .null, .null, .null, .null, .null, .int 0, .int 0, .int 0, .null, .null, .null, .null, .null, .int 0, .null, .null, .int 0, .null]))) :
    CM l yX4_init (.code yX4_init cX4_init 1 none :: WL) (rmK 2 13 12600) base D ct sa M [.ref mo] (fun (v9 : Option Value) (M' : Mem) => v9 = none ∧ ∃ B G, RepM ct B G sZ 0 M' mo ∧ (∀ a, G a ≠ 0 → a = mo ∨ M a = none) ∧ (∀ a, a ≠ mo → M a ≠ none → M' a = M a)) := by
  refine CM.of hl (by decide) (Nat.le_of_ble_eq_true rfl) ?_
  intro p e s m below meth c C hr hnm
  refine V_aload_n C dX4_init_0 (by rfl) ?_
  refine V_objInit C ml_X4_1 im_oi co_oi dX4_init_1 (by decide) (by decide) ?_
  have hN : CN ct M mo [] [.int 0, .int 0, .int 0, .null, .null, .null, .null, .null, .int 0, .int 0, .int 0, .null, .null, .null, .null, .null, .int 0, .null, .null, .int 0, .null] (fun _ => 0) (fun a => if a = mo then 1 else 0) M := by
    refine ⟨hm, if_pos rfl, (fun e h => nomatch h), fun a ha => ?_, fun _ _ _ => rfl⟩
    by_cases e : a = mo
    · exact ⟨Or.inl e, by rw [e, hm]; exact fun h => by cases h⟩
    · exact absurd (if_neg e) ha
  refine V_aload_n C dX4_init_4 (by rfl) ?_
  refine V_sipush C (nI 600) dX4_init_5 (by decide) ?_
  refine Z_bool C hnm hN 3 600 (by decide) (by decide) fl_X4_7 rfl rfl rfl (fun _ => ⟨rfl, rfl⟩) rfl (by decide) (by decide) (by decide) (by decide) (by decide) dX4_init_8 dX4_init_10 (fun q3 M1 hN => ?_)
  refine V_aload_n C dX4_init_13 (by rfl) ?_
  refine V_sipush C (nI 600) dX4_init_14 (by decide) ?_
  refine Z_bool C hnm hN 4 600 (by decide) (by decide) fl_X4_13 rfl rfl rfl (fun _ => ⟨rfl, rfl⟩) rfl (by decide) (by decide) (by decide) (by decide) (by decide) dX4_init_17 dX4_init_19 (fun q4 M1 hN => ?_)
  refine V_aload_n C dX4_init_22 (by rfl) ?_
  refine V_sipush C (nI 4800) dX4_init_23 (by decide) ?_
  refine Z_int C hnm hN 5 4800 (by decide) (by decide) fl_X4_16 rfl rfl rfl (fun _ => ⟨rfl, rfl⟩) rfl (by decide) (by decide) (by decide) (by decide) (by decide) dX4_init_26 dX4_init_28 (fun q5 M1 hN => ?_)
  refine V_aload_n C dX4_init_31 (by rfl) ?_
  refine V_sipush C (nI 4800) dX4_init_32 (by decide) ?_
  refine Z_int C hnm hN 6 4800 (by decide) (by decide) fl_X4_20 rfl rfl rfl (fun _ => ⟨rfl, rfl⟩) rfl (by decide) (by decide) (by decide) (by decide) (by decide) dX4_init_35 dX4_init_37 (fun q6 M1 hN => ?_)
  refine V_aload_n C dX4_init_40 (by rfl) ?_
  refine V_bipush C (nI 10) dX4_init_41 (by decide) ?_
  refine Z_int C hnm hN 7 10 (by decide) (by decide) fl_X4_23 rfl rfl rfl (fun _ => ⟨rfl, rfl⟩) rfl (by decide) (by decide) (by decide) (by decide) (by decide) dX4_init_43 dX4_init_45 (fun q7 M1 hN => ?_)
  refine V_aload_n C dX4_init_48 (by rfl) ?_
  refine V_bipush C (nI 16) dX4_init_49 (by decide) ?_
  refine Z_int C hnm hN 11 16 (by decide) (by decide) fl_X4_26 rfl rfl rfl (fun _ => ⟨rfl, rfl⟩) rfl (by decide) (by decide) (by decide) (by decide) (by decide) dX4_init_51 dX4_init_53 (fun q11 M1 hN => ?_)
  refine V_aload_n C dX4_init_56 (by rfl) ?_
  refine V_bipush C (nI 16) dX4_init_57 (by decide) ?_
  refine Z_int C hnm hN 12 16 (by decide) (by decide) fl_X4_29 rfl rfl rfl (fun _ => ⟨rfl, rfl⟩) rfl (by decide) (by decide) (by decide) (by decide) (by decide) dX4_init_59 dX4_init_61 (fun q12 M1 hN => ?_)
  refine V_aload_n C dX4_init_64 (by rfl) ?_
  refine V_bipush C (nI 16) dX4_init_65 (by decide) ?_
  refine Z_int C hnm hN 13 16 (by decide) (by decide) fl_X4_32 rfl rfl rfl (fun _ => ⟨rfl, rfl⟩) rfl (by decide) (by decide) (by decide) (by decide) (by decide) dX4_init_67 dX4_init_69 (fun q13 M1 hN => ?_)
  refine V_aload_n C dX4_init_72 (by rfl) ?_
  refine V_bipush C (nI 16) dX4_init_73 (by decide) ?_
  refine Z_int C hnm hN 14 16 (by decide) (by decide) fl_X4_35 rfl rfl rfl (fun _ => ⟨rfl, rfl⟩) rfl (by decide) (by decide) (by decide) (by decide) (by decide) dX4_init_75 dX4_init_77 (fun q14 M1 hN => ?_)
  refine V_aload_n C dX4_init_80 (by rfl) ?_
  refine V_sipush C (nI 160) dX4_init_81 (by decide) ?_
  refine Z_int C hnm hN 15 160 (by decide) (by decide) fl_X4_38 rfl rfl rfl (fun _ => ⟨rfl, rfl⟩) rfl (by decide) (by decide) (by decide) (by decide) (by decide) dX4_init_84 dX4_init_86 (fun q15 M1 hN => ?_)
  refine V_aload_n C dX4_init_89 (by rfl) ?_
  refine V_sipush C (nI 600) dX4_init_90 (by decide) ?_
  refine Z_int C hnm hN 17 600 (by decide) (by decide) fl_X4_41 rfl rfl rfl (fun _ => ⟨rfl, rfl⟩) rfl (by decide) (by decide) (by decide) (by decide) (by decide) dX4_init_93 dX4_init_95 (fun q17 M1 hN => ?_)
  refine V_aload_n C dX4_init_98 (by rfl) ?_
  refine V_sipush C (nI 600) dX4_init_99 (by decide) ?_
  refine Z_int C hnm hN 18 600 (by decide) (by decide) fl_X4_44 rfl rfl rfl (fun _ => ⟨rfl, rfl⟩) rfl (by decide) (by decide) (by decide) (by decide) (by decide) dX4_init_102 dX4_init_104 (fun q18 M1 hN => ?_)
  refine V_aload_n C dX4_init_107 (by rfl) ?_
  refine V_sipush C (nI 240) dX4_init_108 (by decide) ?_
  refine Z_int C hnm hN 20 240 (by decide) (by decide) fl_X4_47 rfl rfl rfl (fun _ => ⟨rfl, rfl⟩) rfl (by decide) (by decide) (by decide) (by decide) (by decide) dX4_init_111 dX4_init_113 (fun q20 M1 hN => ?_)
  exact V_vretM C hr (by decide) (by decide) dX4_init_116 ⟨rfl, _, _, hN.rep rfl, fun a ha => (hN.2.2.2.1 a ha).1, hN.2.2.2.2⟩
