/-! undoSince, restore -/
/-- the cells, the owners, with the last m rows undone -/
def cD (σ : Sg) : Nat → Nat → Int32
  | 0 => σ.2 0
  | m + 1 => va_up (cD σ m) (gPl σ (gRows σ - 1 - m)) (gVal σ (gRows σ - 1 - m))
def oD (σ : Sg) (k : Nat) : Nat → Nat → Int32
  | 0 => fun c => nI (ownr σ (gSv σ) c)
  | m + 1 => va_up (oD σ k m) (gPl σ (gRows σ - 1 - m)) (nI (ownr σ k (gPl σ (gRows σ - 1 - m))))
def PM (ct : Nat → ClassId) (A : Nat → Nat → Nat) (σ : Sg) (M : Mem) (k m : Nat) (M' : Mem) : Prop :=
  (∀ a, (∀ o, gThere σ o = 1 → a ≠ A 9 o ∧ a ≠ A 11 o) → M' a = M a) ∧ ∀ o, gThere σ o = 1 → arI ct M' (A 9 o) 8 (fun i => cD σ m (8 * o + i)) ∧ arI ct M' (A 11 o) 8 (fun i => oD σ k m (8 * o + i))
/-- the top save's rows lie apart -/
theorem top_apart {B : Nat} {σ : Sg} (hI : Inv B σ) {k : Nat} (hsv : gSv σ = k + 1) : ∀ r r', gRb σ k ≤ r → r < r' → r' < gRows σ → gPl σ r ≠ gPl σ r' := by
  intro r r' h1 h2 h3
  exact hI.2.2.2.2.1.2 k r r' (by omega) (by unfold rbx; rw [if_pos (by omega)]; exact h1) h2 (by unfold rbx; rw [if_neg (by omega)]; exact h3)
theorem cD_char {σ : Sg} {lo : Nat} (ha : ∀ r r', lo ≤ r → r < r' → r' < gRows σ → gPl σ r ≠ gPl σ r') : ∀ m, m ≤ gRows σ - lo → (∀ r, gRows σ - m ≤ r → r < gRows σ → cD σ m (gPl σ r) = gVal σ r) ∧ (∀ c, (∀ r, gRows σ - m ≤ r → r < gRows σ → gPl σ r ≠ c) → cD σ m c = σ.2 0 c) := by
  intro m
  induction m with
  | zero => intro _; exact ⟨fun r h1 h2 => absurd h2 (by omega), fun c _ => rfl⟩
  | succ m ih =>
    intro hm
    obtain ⟨h1, h2⟩ := ih (by omega)
    refine ⟨fun r g1 g2 => ?_, fun c hc => ?_⟩
    · simp only [cD]
      by_cases e : r = gRows σ - 1 - m
      · subst e; rw [va_up_self]
      · rw [va_up_ne _ _ (fun q => ha (gRows σ - 1 - m) r (by omega) (by omega) g2 q.symm)]
        exact h1 r (by omega) g2
    · simp only [cD]
      rw [va_up_ne _ _ (fun q => hc (gRows σ - 1 - m) (by omega) (by omega) q.symm)]
      exact h2 c (fun r g1 g2 => hc r (by omega) g2)
theorem undo_char {σ : Sg} {lo : Nat} (ha : ∀ r r', lo ≤ r → r < r' → r' < gRows σ → gPl σ r ≠ gPl σ r') : ∀ n, lo + n ≤ gRows σ → (∀ r, lo ≤ r → r < lo + n → undo σ lo n (gPl σ r) = gVal σ r) ∧ (∀ c, (∀ r, lo ≤ r → r < lo + n → gPl σ r ≠ c) → undo σ lo n c = σ.2 0 c) := by
  intro n
  induction n with
  | zero => intro _; exact ⟨fun r h1 h2 => absurd h2 (by omega), fun c _ => rfl⟩
  | succ n ih =>
    intro hn
    obtain ⟨h1, h2⟩ := ih (by omega)
    refine ⟨fun r g1 g2 => ?_, fun c hc => ?_⟩
    · simp only [undo]
      by_cases e : r = lo + n
      · subst e; rw [va_up_self]
      · rw [va_up_ne _ _ (ha r (lo + n) g1 (by omega) (by omega))]
        exact h1 r g1 (by omega)
    · simp only [undo]
      rw [va_up_ne _ _ (fun q => hc (lo + n) (by omega) (by omega) q.symm)]
      exact h2 c (fun r g1 g2 => hc r g1 (by omega))
theorem cD_undo {σ : Sg} {lo : Nat} (hl : lo ≤ gRows σ) (ha : ∀ r r', lo ≤ r → r < r' → r' < gRows σ → gPl σ r ≠ gPl σ r') (c : Nat) : cD σ (gRows σ - lo) c = undo σ lo (gRows σ - lo) c := by
  obtain ⟨h1, h2⟩ := cD_char ha (gRows σ - lo) (Nat.le_refl _)
  obtain ⟨g1, g2⟩ := undo_char ha (gRows σ - lo) (by omega)
  cases h : hasR σ lo (gRows σ) c with
  | true =>
    obtain ⟨r, q1, q2, rfl⟩ := hasR_iff.mp h
    rw [h1 r (by omega) q2, g1 r q1 (by omega)]
  | false =>
    have hn : ∀ r, lo ≤ r → r < gRows σ → gPl σ r ≠ c := fun r q1 q2 e => by rw [hasR_iff.mpr ⟨r, q1, q2, e⟩] at h; cases h
    rw [h2 c (fun r q1 q2 => hn r (by omega) q2), g2 c (fun r q1 q2 => hn r q1 (by omega))]
theorem oD_char {σ : Sg} {k : Nat} : ∀ m, m ≤ gRows σ → (∀ r, gRows σ - m ≤ r → r < gRows σ → oD σ k m (gPl σ r) = nI (ownr σ k (gPl σ r))) ∧ (∀ c, (∀ r, gRows σ - m ≤ r → r < gRows σ → gPl σ r ≠ c) → oD σ k m c = nI (ownr σ (gSv σ) c)) := by
  intro m
  induction m with
  | zero => intro _; exact ⟨fun r h1 h2 => absurd h2 (by omega), fun c _ => rfl⟩
  | succ m ih =>
    intro hm
    obtain ⟨h1, h2⟩ := ih (by omega)
    refine ⟨fun r g1 g2 => ?_, fun c hc => ?_⟩
    · simp only [oD]
      by_cases e : gPl σ r = gPl σ (gRows σ - 1 - m)
      · rw [e, va_up_self]
      · rw [va_up_ne _ _ e]
        have : r ≠ gRows σ - 1 - m := fun q => e (by rw [q])
        exact h1 r (by omega) g2
    · simp only [oD]
      rw [va_up_ne _ _ (fun q => hc (gRows σ - 1 - m) (by omega) (by omega) q.symm)]
      exact h2 c (fun r g1 g2 => hc r (by omega) g2)
theorem oD_own {σ : Sg} {k : Nat} (hsv : gSv σ = k + 1) (hl : gRb σ k ≤ gRows σ) (c : Nat) : oD σ k (gRows σ - gRb σ k) c = nI (ownr σ k c) := by
  obtain ⟨h1, h2⟩ := oD_char (σ := σ) (k := k) (gRows σ - gRb σ k) (by omega)
  cases h : hasR σ (gRb σ k) (gRows σ) c with
  | true =>
    obtain ⟨r, q1, q2, rfl⟩ := hasR_iff.mp h
    exact h1 r (by omega) q2
  | false =>
    have hn : ∀ r, gRb σ k ≤ r → r < gRows σ → gPl σ r ≠ c := fun r q1 q2 e => by rw [hasR_iff.mpr ⟨r, q1, q2, e⟩] at h; cases h
    rw [h2 c (fun r q1 q2 => hn r (by omega) q2), ownr_top hsv, h]
    rfl
theorem PM.step {ct : Nat → ClassId} {A : Nat → Nat → Nat} {G : Nat → Nat} {σ : Sg} {M M' : Mem} {x k m o j : Nat} (hG : RepG A G σ x) (ho : gThere σ o = 1) (hj : j < 8) (hr : gPl σ (gRows σ - 1 - m) = 8 * o + j) {f w : Nat → Int32} (hf2 : ∀ i, i < 8 → f i = cD σ m (8 * o + i)) (hw2 : ∀ i, i < 8 → w i = oD σ k m (8 * o + i)) (h : PM ct A σ M k m M') : PM ct A σ M k (m + 1) (mput (mput M' (A 9 o) (.inl (ct 0, 8, .inl (upd f j (gVal σ (gRows σ - 1 - m)))))) (A 11 o) (.inl (ct 0, 8, .inl (upd w j (nI (ownr σ k (gPl σ (gRows σ - 1 - m)))))))) := by
  obtain ⟨h1, h2⟩ := h
  obtain ⟨g8, g9, g10, g11⟩ := hG.2.2.2.2.1 o ho
  have n911 : A 9 o ≠ A 11 o := ne_tag g9 g11 (by omega)
  refine ⟨fun a ha => ?_, fun o' ho' => ?_⟩
  · rw [mput_ne (ha o ho).2, mput_ne (ha o ho).1]; exact h1 a ha
  · obtain ⟨p1, p2⟩ := h2 o' ho'
    obtain ⟨q8, q9, q10, q11⟩ := hG.2.2.2.2.1 o' ho'
    by_cases e : o' = o
    · subst e
      refine ⟨⟨_, by rw [mput_ne n911, mput_eq], fun i hi => ?_⟩, ⟨_, by rw [mput_eq], fun i hi => ?_⟩⟩
      · show upd f j _ i = cD σ (m + 1) (8 * o' + i)
        simp only [cD]
        rw [hr]
        by_cases e2 : i = j
        · subst e2; rw [va_up_self, pk_us]
        · rw [va_up_ne _ _ (by omega), pk_un e2]; exact hf2 i hi
      · show upd w j _ i = oD σ k (m + 1) (8 * o' + i)
        simp only [oD]
        rw [hr]
        by_cases e2 : i = j
        · subst e2; rw [va_up_self, pk_us]
        · rw [va_up_ne _ _ (by omega), pk_un e2]; exact hw2 i hi
    · refine ⟨(p1.same ?_).to (fun i hi => ?_), (p2.same ?_).to (fun i hi => ?_)⟩
      · rw [mput_ne (ne_tag q9 g11 (by omega)), mput_ne (ne_tag q9 g9 (by omega))]
      · simp only [cD]; rw [hr, va_up_ne _ _ (by omega)]
      · rw [mput_ne (ne_tag q11 g11 (by omega)), mput_ne (ne_tag q11 g9 (by omega))]
      · simp only [oD]; rw [hr, va_up_ne _ _ (by omega)]
set_option maxHeartbeats 4000000 in
set_option maxRecDepth 100000 in
theorem c_undoSince (l : Launch) (hl : l.stackTraces = false) (base : Nat) (D : va_G) (ct : Nat → ClassId) (sa : Nat → Nat) {A : Nat → Nat → Nat} {G ob : Nat → Nat} {σ : Sg} {M : Mem} {x B : Nat} (hC : RepC ct A G ob σ M x) (hI : Inv B σ) (hB : B ≤ 600) {k : Nat} (hsv : gSv σ = k + 1) {pf hf : Nat → Int32} (hp : M (A 3 0) = some (.inl (ct 0, 10, .inl pf))) (hh : M (A 7 k) = some (.inl (ct 0, 8, .inl hf))) :
    CT l yX3_undoSince (.code yX3_undoSince cX3_undoSince 3 none :: WL) (rmK 3 0 0) base D ct sa M [.ref x, .ref (A 6 k)] (fun (v9 : Option Value) (M' : Mem) => v9 = none ∧ ∃ M1, PM ct A σ M k (gRows σ - gRb σ k) M1 ∧ ∃ c tf' ob', LI A σ ob (gFst σ k) (gAlive σ) c tf' ob' ∧ M' = mput (mput (mput (mput M1 (A 6 k) (sE A σ k (nI (gNum σ k)) (nI (gFst σ k)) (nI (gSb σ k)) none 0)) (A 1 0) (.inl (ct 4, 200, .inr (.inr (.inr (.inr tf')))))) x (.inr (3, [.ref (A 1 0), .int (nI c), .int (nI (gMade σ)), .ref (A 2 0), .int (nI (gSv σ)), .int (nI (gLast σ)), .int (nI (gDeep σ)), .ref (A 3 0), .ref (A 4 0), .int (nI (gSb σ k))]))) (A 3 0) (.inl (ct 0, 10, .inl (va_cpy hf pf 0 0 8)))) noX := by
  refine CT.of hl (by decide) (Nat.le_of_ble_eq_true rfl) ?_
  intro p e s m below meth c C hr hx
  obtain ⟨hx0, hG, hO, hA, hT, hS, hR⟩ := id hC
  obtain ⟨tf, htf, htf2⟩ := hA.1
  have i5 := hI.1.2.2.2.2.1
  have hal := hI.1.2.2.2.1
  have hmd := Nat.le_trans hI.1.1 hB
  have hfm := hI.2.2.1.2.2.1 k (by omega)
  have hs6 := ((hS k (by omega)).1 (by omega)).1
  have g6 := hG.2.2.2.1 k (by omega)
  have hlo := hI.2.2.2.1.1 k (by omega)
  have rbk : rbx σ k = gRb σ k := by unfold rbx; rw [if_pos (by omega)]
  have rbe : rbx σ (k + 1) = gRows σ := by unfold rbx; rw [if_neg (by omega)]
  have apart : ∀ {a t : Nat}, G a = t → t % 16 ≠ 9 → t % 16 ≠ 11 → ∀ o, gThere σ o = 1 → a ≠ A 9 o ∧ a ≠ A 11 o := fun h q1 q2 o ho => ⟨ne_tag h (hG.2.2.2.2.1 o ho).2.1 (by omega), ne_tag h (hG.2.2.2.2.1 o ho).2.2.2 (by omega)⟩
  have hPM0 : PM ct A σ M k 0 M := ⟨fun _ _ => rfl, fun o ho => ⟨(hT o ho).2.1, (hT o ho).2.2.2⟩⟩
  have loop : ∀ (d t : Nat) (Mt : Mem), gRows σ - gRb σ k ≤ t + d → t ≤ gRows σ - gRb σ k → PM ct A σ M k t Mt → VV p l e (rmK 3 0 0) s m ([.ref x, .ref (A 6 k)] : List Value).toArray below meth c 3 base D (QB base D (fun (v9 : Option Value) (M' : Mem) => v9 = none ∧ ∃ M1, PM ct A σ M k (gRows σ - gRb σ k) M1 ∧ ∃ c tf' ob', LI A σ ob (gFst σ k) (gAlive σ) c tf' ob' ∧ M' = mput (mput (mput (mput M1 (A 6 k) (sE A σ k (nI (gNum σ k)) (nI (gFst σ k)) (nI (gSb σ k)) none 0)) (A 1 0) (.inl (ct 4, 200, .inr (.inr (.inr (.inr tf')))))) x (.inr (3, [.ref (A 1 0), .int (nI c), .int (nI (gMade σ)), .ref (A 2 0), .int (nI (gSv σ)), .int (nI (gLast σ)), .int (nI (gDeep σ)), .ref (A 3 0), .ref (A 4 0), .int (nI (gSb σ k))]))) (A 3 0) (.inl (ct 0, 10, .inl (va_cpy hf pf 0 0 8)))) noX below ([.ref x, .ref (A 6 k)] : List Value).toArray s 0 0) Mt 0 0 5 [(0, .ref x), (1, .ref (A 6 k)), (2, va_rf (rowOf A (gRb σ k) (gRows σ - t)))] [] := by
    intro d
    induction d with
    | zero =>
      intro t Mt h1 h2 hP
      have htt : t = gRows σ - gRb σ k := by omega
      subst htt
      rw [show rowOf A (gRb σ k) (gRows σ - (gRows σ - gRb σ k)) = none by unfold rowOf; rw [if_neg (by omega)]]
      have gx := hG.1
      have g1 := hG.2.1 1 (by decide) (by decide)
      have g3 := hG.2.1 3 (by decide) (by decide)
      have nx6 : x ≠ A 6 k := ne_tag gx g6.1 (by omega)
      have n16 : A 1 0 ≠ A 6 k := ne_tag g1 g6.1 (by omega)
      have nx1 : x ≠ A 1 0 := ne_tag gx g1 (by decide)
      have n7x : A 7 k ≠ x := ne_tag g6.2 gx (by omega)
      have n71 : A 7 k ≠ A 1 0 := ne_tag g6.2 g1 (by omega)
      have n76 : A 7 k ≠ A 6 k := ne_tag g6.2 g6.1 (by omega)
      have n3x : A 3 0 ≠ x := ne_tag g3 gx (by decide)
      have n31 : A 3 0 ≠ A 1 0 := ne_tag g3 g1 (by decide)
      have n36 : A 3 0 ≠ A 6 k := ne_tag g3 g6.1 (by omega)
      have h6 : Mt (A 6 k) = _ := (hP.1 _ (apart g6.1 (by omega) (by omega))).trans hs6
      have h1x : Mt x = _ := (hP.1 _ (apart gx (by decide) (by decide))).trans hx0
      have h1T : Mt (A 1 0) = _ := (hP.1 _ (apart g1 (by decide) (by decide))).trans htf
      have h13 : Mt (A 3 0) = _ := (hP.1 _ (apart g3 (by decide) (by decide))).trans hp
      have h17 : Mt (A 7 k) = _ := (hP.1 _ (apart g6.2 (by omega) (by omega))).trans hh
      have h1Th : ∀ i, i < gAlive σ → Mt (A 8 (ob i)) = some (tE A σ (ob i)) := fun i hi => (hP.1 _ (apart (hG.2.2.2.2.1 _ (hO.1 i hi).2).1 (by omega) (by omega))).trans (hT _ (hO.1 i hi).2).1
      have n86 : ∀ i, i < gAlive σ → A 8 (ob i) ≠ A 6 k := fun i hi => ne_tag (hG.2.2.2.2.1 _ (hO.1 i hi).2).1 g6.1 (by omega)
      refine V_aload_nN C dX3_undoSince_5 (by rfl) ?_
      refine V_ifnullN C 21 dX3_undoSince_6 (by decide) ?_
      refine V_aload_n C dX3_undoSince_21 (by rfl) ?_
      refine V_null C dX3_undoSince_22 ?_
      refine V_put C (ci := 1) h6 rfl wu_X1 4 (by decide) fl_X3_172 rfl tyX1 tyX1_ok nmX1 rfl (by rfl) (by rfl) (Nat.le_of_ble_eq_true rfl) dX3_undoSince_23 ?_
      refine V_aload_n C dX3_undoSince_26 (by rfl) ?_
      refine V_iconst C (0) dX3_undoSince_27 (by decide) ?_
      refine V_put C (ci := 1) (mput_eq _ _ _) rfl wu_X1 5 (by decide) fl_X3_143 rfl tyX1 tyX1_ok nmX1 rfl (by rfl) (by rfl) (Nat.le_of_ble_eq_true rfl) dX3_undoSince_28 ?_
      refine VV.eqv (M' := mput Mt (A 6 k) (sE A σ k (nI (gNum σ k)) (nI (gFst σ k)) (nI (gSb σ k)) none 0)) (mput_mput _ _ _ _) rfl ?_
      refine V_aload_n C dX3_undoSince_31 (by rfl) ?_
      refine V_aload_n C dX3_undoSince_32 (by rfl) ?_
      refine V_callV C hx (As := [.ref (A 6 k)]) (c_drop l hl base D ct sa (ob := ob) (f := gFst σ k) ((mput_ne nx6).trans h1x) ((mput_ne n16).trans h1T) htf2 (fun i hi => (mput_ne (n86 i hi)).trans (h1Th i hi)) (mput_eq _ _ _) hO.2.1 (fun i hi => Nat.lt_of_lt_of_le (hO.1 i hi).1 hmd) hal (by omega) hI.2.1.2.1 nx1) w_X3_185 ((mput_ne nx6).trans h1x) rfl rfl (by decide) (Nat.le_of_ble_eq_true rfl) ⟨by decide, by decide⟩ dX3_undoSince_33 (by decide) (by decide) (fun _ _ h => h.elim) (fun v9 M2 hv => ?_)
      obtain ⟨rfl, c9, tf', ob', hL, rfl⟩ := hv
      refine VV.eqv (st' := []) rfl rfl ?_
      refine V_aload_n C dX3_undoSince_36 (by rfl) ?_
      refine V_aload_n C dX3_undoSince_37 (by rfl) ?_
      refine V_get C (ci := 1) ((mput_ne nx6.symm).trans ((mput_ne n16.symm).trans (mput_eq _ _ _))) rfl wu_X1 2 (by decide) fl_X3_101 rfl (by rfl) dX3_undoSince_38 ?_
      refine V_put C (ci := 3) (mput_eq _ _ _) rfl wu_X3 9 (by decide) fl_X3_46 rfl tyX3 tyX3_ok nmX3 rfl (by rfl) (by rfl) (Nat.le_of_ble_eq_true rfl) dX3_undoSince_41 ?_
      refine VV.eqv (mput_mput _ _ _ _) rfl ?_
      refine V_aload_n C dX3_undoSince_44 (by rfl) ?_
      refine V_get C (ci := 1) ((mput_ne nx6.symm).trans ((mput_ne n16.symm).trans (mput_eq _ _ _))) rfl wu_X1 3 (by decide) fl_X3_104 rfl (by rfl) dX3_undoSince_45 ?_
      refine V_iconst C (nI 0) dX3_undoSince_48 (by decide) ?_
      refine V_aload_n C dX3_undoSince_49 (by rfl) ?_
      refine V_get C (ci := 3) (mput_eq _ _ _) rfl wu_X3 7 (by decide) fl_X3_37 rfl (by rfl) dX3_undoSince_50 ?_
      refine V_iconst C (nI 0) dX3_undoSince_53 (by decide) ?_
      refine V_bipush C (nI 8) dX3_undoSince_54 (by decide) ?_
      refine N_copy C ((mput_ne n7x).trans ((mput_ne n71).trans ((mput_ne n76).trans h17))) ((mput_ne n3x).trans ((mput_ne n31).trans ((mput_ne n36).trans h13))) ml_X3_105 (by decide) (by decide) (by decide) (by decide) (by decide) (by decide) dX3_undoSince_56 ?_
      exact V_vret C hr (by decide) (by decide) dX3_undoSince_59 ⟨rfl, Mt, hP, c9, tf', ob', hL, rfl⟩
    | succ d ih =>
      intro t Mt h1 h2 hP
      rcases Nat.lt_or_ge t (gRows σ - gRb σ k) with ht | ht
      · have hrr : gRows σ - 1 - t < gRows σ := by omega
        rw [show rowOf A (gRb σ k) (gRows σ - t) = some (A 12 (gRows σ - 1 - t)) by unfold rowOf; rw [if_pos (by omega), show gRows σ - t - 1 = gRows σ - 1 - t by omega]]
        have hq := hI.2.2.2.2.2 k (gRows σ - 1 - t) (by omega) (by rw [rbk]; omega) (by rw [rbe]; omega)
        have hrow0 : M (A 12 (gRows σ - 1 - t)) = _ := hR k (gRows σ - 1 - t) (by omega) (by rw [rbk]; omega) (by rw [rbe]; omega)
        have g12 := hG.2.2.2.2.2 (gRows σ - 1 - t) hrr
        have g8 := hG.2.2.2.2.1 _ hq.2.1
        have hrow : Mt (A 12 (gRows σ - 1 - t)) = _ := (hP.1 _ (apart g12 (by omega) (by omega))).trans hrow0
        have h8 : Mt (A 8 (gPl σ (gRows σ - 1 - t) / 8)) = _ := (hP.1 _ (apart g8.1 (by omega) (by omega))).trans (hT _ hq.2.1).1
        obtain ⟨⟨f, hf, hf2⟩, ⟨w, hw, hw2⟩⟩ := hP.2 _ hq.2.1
        have n911 : A 9 (gPl σ (gRows σ - 1 - t) / 8) ≠ A 11 (gPl σ (gRows σ - 1 - t) / 8) := ne_tag g8.2.1 g8.2.2.2 (by omega)
        refine V_aload_n C dX3_undoSince_5 (by rfl) ?_
        refine V_ifnull C dX3_undoSince_6 ?_
        refine V_aload_n C dX3_undoSince_9 (by rfl) ?_
        refine V_callV C hx (As := []) (c_putBack l hl base D ct sa (Nat.mod_lt _ (by decide)) hrow h8 hf hw n911) w_X3_179 hrow rfl rfl (by decide) (Nat.le_of_ble_eq_true rfl) ⟨by decide, by decide⟩ dX3_undoSince_10 (by decide) (by decide) (fun _ _ h => h.elim) (fun v9 M2 hv => ?_)
        obtain ⟨rfl, rfl⟩ := hv
        refine VV.eqv (st' := []) rfl rfl ?_
        have nr9 : A 12 (gRows σ - 1 - t) ≠ A 9 (gPl σ (gRows σ - 1 - t) / 8) := ne_tag g12 g8.2.1 (by omega)
        have nr11 : A 12 (gRows σ - 1 - t) ≠ A 11 (gPl σ (gRows σ - 1 - t) / 8) := ne_tag g12 g8.2.2.2 (by omega)
        have hnext := ih (t + 1) _ (by omega) (by omega) (PM.step (j := gPl σ (gRows σ - 1 - t) % 8) hG hq.2.1 (Nat.mod_lt _ (by decide)) (by omega) hf2 hw2 hP)
        rw [show gRows σ - (t + 1) = gRows σ - 1 - t by omega] at hnext
        refine V_aload_n C dX3_undoSince_13 (by rfl) ?_
        refine V_get C (ci := 0) ((mput_ne nr11).trans ((mput_ne nr9).trans hrow)) rfl wu_X0 4 (by decide) fl_X3_182 rfl (by rfl) dX3_undoSince_14 ?_
        rw [rbk]
        revert hnext
        cases rowOf A (gRb σ k) (gRows σ - 1 - t) with
        | none =>
          intro hnext
          refine V_astore_nN C dX3_undoSince_17 (by decide) ?_
          refine V_goto C 5 dX3_undoSince_18 (by decide) ?_
          refine VV.loc [(0, .ref x), (1, .ref (A 6 k)), (2, .null)] ⟨rfl, rfl, rfl, trivial⟩ ?_
          exact hnext
        | some r9 =>
          intro hnext
          refine V_astore_n C dX3_undoSince_17 (by decide) ?_
          refine V_goto C 5 dX3_undoSince_18 (by decide) ?_
          refine VV.loc [(0, .ref x), (1, .ref (A 6 k)), (2, .ref r9)] ⟨rfl, rfl, rfl, trivial⟩ ?_
          exact hnext
      · exact ih t Mt (by omega) h2 hP
  refine V_aload_n C dX3_undoSince_0 (by rfl) ?_
  refine V_get C (ci := 1) hs6 rfl wu_X1 4 (by decide) fl_X3_172 rfl (by rfl) dX3_undoSince_1 ?_
  have st9 := loop (gRows σ - gRb σ k) 0 M (by omega) (by omega) hPM0
  rw [rbk, rbe]
  rw [Nat.sub_zero] at st9
  revert st9
  cases rowOf A (gRb σ k) (gRows σ) with
  | none =>
    intro st9
    refine V_astore_nN C dX3_undoSince_4 (by decide) ?_
    refine VV.loc [(0, .ref x), (1, .ref (A 6 k)), (2, .null)] ⟨rfl, rfl, rfl, trivial⟩ ?_
    exact st9
  | some r9 =>
    intro st9
    refine V_astore_n C dX3_undoSince_4 (by decide) ?_
    refine VV.loc [(0, .ref x), (1, .ref (A 6 k)), (2, .ref r9)] ⟨rfl, rfl, rfl, trivial⟩ ?_
    exact st9
theorem there_res {σ : Sg} {k o : Nat} : gThere (doRestore σ k) o = if gFst σ k ≤ o ∧ o < gMade σ ∧ gGlob σ o = 0 then 0 else gThere σ o := rfl
theorem there_res1 {σ : Sg} {k o : Nat} : gThere (doRestore σ k) o = 1 ↔ gThere σ o = 1 ∧ ¬ (gFst σ k ≤ o ∧ o < gMade σ ∧ gGlob σ o = 0) := by
  rw [there_res]
  split
  · constructor
    · intro h; cases h
    · rintro ⟨_, h⟩; exact absurd (by assumption) h
  · exact ⟨fun h => ⟨h, by assumption⟩, fun h => h.1⟩
theorem rbx_res {σ : Sg} {k : Nat} (hsv : gSv σ = k + 1) {i : Nat} (hi : i ≤ k) : rbx (doRestore σ k) i = rbx σ i := by
  show (if i < k then gRb σ i else gRb σ k) = if i < gSv σ then gRb σ i else gRows σ
  rw [if_pos (show i < gSv σ by omega)]
  by_cases e : i < k
  · rw [if_pos e]
  · rw [if_neg e, show i = k by omega]
theorem inv_restore {B : Nat} {σ : Sg} (h : Inv B σ) {k : Nat} (hsv : gSv σ = k + 1) (h8 : isNw σ (gPa σ 8) (gFst σ k) = false) (h9 : isNw σ (gPa σ 9) (gFst σ k) = false) : Inv (B + 1) (doRestore σ k) := by
  have hap := top_apart h hsv
  obtain ⟨⟨a1, a2, a3, a4, a5, a6, a7, a8⟩, ⟨t1, t2, t3, t4⟩, ⟨n1, n2, n3, n4⟩, ⟨r1, r2, r3, r4, r5, r6⟩, ⟨⟨v8, v9⟩, i5⟩, i6⟩ := h
  have hth : ∀ o, o < gMade σ → gThere σ o = 1 → ¬ (gFst σ k ≤ o ∧ gGlob σ o = 0) → gThere (doRestore σ k) o = 1 := fun o q1 q2 q3 => there_res1.mpr ⟨q2, fun g => q3 ⟨g.1, g.2.2⟩⟩
  have hv : ∀ v, isV σ v = true → isNw σ v (gFst σ k) = false → isV (doRestore σ k) v = true := by
    intro v q1 q2
    simp only [isV, isO, Bool.or_eq_true, decide_eq_true_eq] at q1 ⊢
    rcases q1 with q1 | ⟨q3, q4, q5⟩
    · exact Or.inl q1
    · by_cases hv0 : 0 ≤ v
      · exact Or.inl hv0
      · refine Or.inr ⟨q3, q4, hth _ q4 q5 (fun g => ?_)⟩
        simp only [isNw, decide_eq_false_iff_not] at q2
        exact q2 ⟨Int32.not_le.mp hv0, g.1, g.2⟩
  have hun : ∀ j, 8 * gMade σ ≤ j → undo σ (gRb σ k) (gRows σ - gRb σ k) j = gCe σ j := by
    intro j hj
    refine (undo_char hap (gRows σ - gRb σ k) (by have := r1 k (by omega); omega)).2 j (fun r q1 q2 e => ?_)
    have q := (i6 k r (by omega) (by unfold rbx; rw [if_pos (by omega)]; exact q1) (by unfold rbx; rw [if_neg (by omega)]; have := r1 k (by omega); omega)).1
    have q3 := n3 k (by omega)
    rw [e] at q; omega
  refine ⟨⟨Nat.le_succ_of_le a1, Nat.le_succ_of_le (Nat.le_trans (r1 k (by omega)) a2), Nat.le_succ_of_le a3, Nat.le_trans (Nat.sub_le _ _) a4, show k ≤ 16 by omega, Nat.le_trans (r3 k (by omega)) a6, show k ≤ gDeep σ by omega, a8⟩, ⟨fun o => ?_, t2, fun o ho => t3 o (there_res1.mp ho).1, fun j hj => ⟨(hun j hj).trans (t4 j hj).1, (t4 j hj).2⟩⟩, ⟨fun i hi => n1 i (by have : i < k := hi; omega), fun i j hij hj => n2 i j hij (by have : j < k := hj; omega), fun i hi => n3 i (by have : i < k := hi; omega), fun i j hij hj => n4 i j hij (by have : j < k := hj; omega)⟩, ⟨fun i hi => r2 i k (by have : i < k := hi; omega) (by omega), fun i j hij hj => r2 i j hij (by have : j < k := hj; omega), fun i hi => r4 i k (by have : i < k := hi; omega) (by omega), fun i j hij hj => r4 i j hij (by have : j < k := hj; omega), fun h0 => ?_, fun h0 => r6 (by omega)⟩, ⟨⟨?_, ?_⟩, fun i r r' h1 h2 h3 h4 => ?_⟩, fun i r h1 h2 h3 => ?_⟩
  · rw [there_res]; split
    · omega
    · exact t1 o
  · have h0' : k = 0 := h0
    show gRb σ k = 0
    rw [h0']; exact r6 (by omega)
  · have : gPa (doRestore σ k) 8 = gPa σ 8 := by
      show va_cpy (σ.2 3) (σ.2 2) (10 * k) 0 8 8 = σ.2 2 8
      exact pk_cpy_out (by omega)
    rw [this]; exact hv _ v8 h8
  · have : gPa (doRestore σ k) 9 = gPa σ 9 := by
      show va_cpy (σ.2 3) (σ.2 2) (10 * k) 0 8 9 = σ.2 2 9
      exact pk_cpy_out (by omega)
    rw [this]; exact hv _ v9 h9
  · have h1' : i < k := h1
    rw [rbx_res hsv (by omega)] at h2 h4
    exact i5 i r r' (by omega) h2 h3 h4
  · have h1' : i < k := h1
    rw [rbx_res hsv (by omega)] at h2 h3
    obtain ⟨q1, q2, q3⟩ := i6 i r (by omega) h2 h3
    have q4 := n4 i k (by omega) (by omega)
    exact ⟨q1, there_res1.mpr ⟨q2, fun g => by have g1 : gFst σ k ≤ gPl σ r / 8 := g.1; omega⟩, q3⟩
set_option maxHeartbeats 4000000 in
theorem restoreC {ct : Nat → ClassId} {A : Nat → Nat → Nat} {G ob : Nat → Nat} {σ : Sg} {M : Mem} {x B : Nat} (hC : RepC ct A G ob σ M x) (hI : Inv B σ) {k : Nat} (hsv : gSv σ = k + 1) {pf hf : Nat → Int32} (hp2 : ∀ j, j < 10 → pf j = σ.2 2 j) (hh2 : ∀ j, j < 8 → hf j = gHad σ (10 * k + j)) (hh : M (A 7 k) = some (.inl (ct 0, 8, .inl hf))) {M1 M' : Mem} (hP : PM ct A σ M k (gRows σ - gRb σ k) M1) {c : Nat} {tf' : Nat → Option Nat} {ob' : Nat → Nat} (hL : LI A σ ob (gFst σ k) (gAlive σ) c tf' ob') (hold : ∀ a, a ≠ x → a ≠ A 1 0 → a ≠ A 3 0 → a ≠ A 6 k → M' a = M1 a)
    (mx : M' x = some (.inr (3, [.ref (A 1 0), .int (nI c), .int (nI (gMade σ)), .ref (A 2 0), .int (nI k), .int (nI (gLast σ)), .int (nI (gDeep σ)), .ref (A 3 0), .ref (A 4 0), .int (nI (gSb σ k))]))) (mT : M' (A 1 0) = some (.inl (ct 4, 200, .inr (.inr (.inr (.inr tf')))))) (m3 : M' (A 3 0) = some (.inl (ct 0, 10, .inl (va_cpy hf pf 0 0 8)))) (m6 : M' (A 6 k) = some (sE A σ k (nI (gNum σ k)) (nI (gFst σ k)) (nI (gSb σ k)) none 0)) : RepC ct A G ob' (doRestore σ k) M' x := by
  have hap := top_apart hI hsv
  have hfm := hI.2.2.1.2.2.1 k (by omega)
  have hlo := hI.2.2.2.1.1 k (by omega)
  have hst := hI.2.2.2.1.2.2.1 k (by omega)
  have i5 := hI.1.2.2.2.2.1
  obtain ⟨hx0, hG, hO, ⟨⟨tf, a1, a2⟩, ⟨s9, a3, a4⟩, a5, ⟨uf, a6, a7⟩, a8⟩, hT, hS, hR⟩ := hC
  have ge := gone_eq hO hfm
  have ec : c = gAlive σ - goneC σ (gFst σ k) (gMade σ - gFst σ k) := by have := hL.1; omega
  have g6 := hG.2.2.2.1 k (by omega)
  have apart : ∀ {a t : Nat}, G a = t → t % 16 ≠ 9 → t % 16 ≠ 11 → ∀ o, gThere σ o = 1 → a ≠ A 9 o ∧ a ≠ A 11 o := fun h q1 q2 o ho => ⟨ne_tag h (hG.2.2.2.2.1 o ho).2.1 (by omega), ne_tag h (hG.2.2.2.2.1 o ho).2.2.2 (by omega)⟩
  have h1 : ∀ {a t : Nat}, G a = t → t ≠ 13 → t ≠ 1 → t ≠ 3 → t ≠ 16 * k + 6 → M' a = M1 a := fun h q1 q2 q3 q4 => hold _ (ne_tag h hG.1 q1) (ne_tag h (hG.2.1 1 (by decide) (by decide)) q2) (ne_tag h (hG.2.1 3 (by decide) (by decide)) q3) (ne_tag h g6.1 q4)
  have h0 : ∀ {a t : Nat}, G a = t → t ≠ 13 → t ≠ 1 → t ≠ 3 → t ≠ 16 * k + 6 → t % 16 ≠ 9 → t % 16 ≠ 11 → M' a = M a := fun h q1 q2 q3 q4 q5 q6 => (h1 h q1 q2 q3 q4).trans (hP.1 _ (apart h q5 q6))
  have ow : ∀ i q, i ≤ k → ownr (doRestore σ k) i q = ownr σ i q := fun i q hi => ownr_congr i q (fun j hj => rbx_res hsv (by omega)) (fun _ _ _ _ _ => rfl) (fun _ _ => rfl)
  refine ⟨?_, ⟨hG.1, hG.2.1, hG.2.2.1, hG.2.2.2.1, fun o ho => hG.2.2.2.2.1 o (there_res1.mp ho).1, fun r hr => hG.2.2.2.2.2 r (Nat.lt_of_lt_of_le hr hlo)⟩, ⟨fun j hj => ?_, fun i j hij hj => hL.2.2.2.2.1 i j hij (by rw [ec]; exact hj), fun o q1 q2 => ?_⟩, ⟨⟨tf', mT, fun j hj => hL.2.1 j (by rw [ec]; exact hj)⟩, ⟨s9, ?_, a4⟩, ⟨_, m3, fun j hj => ?_⟩, ⟨uf, ?_, a7⟩, fun i hi => ?_⟩, fun o ho => ?_, fun i hi => ?_, fun i r q1 q2 q3 => ?_⟩
  · rw [mx, ec]; rfl
  · obtain ⟨i, q1, q2, q3⟩ := hL.2.2.2.1 j (by rw [ec]; exact hj)
    obtain ⟨q4, q5⟩ := hO.1 i q1
    rw [q2]
    refine ⟨q4, there_res1.mpr ⟨q5, fun g => ?_⟩⟩
    simp only [stay, Bool.not_eq_true', decide_eq_false_iff_not] at q3
    exact q3 ⟨g.2.2, g.1⟩
  · obtain ⟨q3, q4⟩ := there_res1.mp q2
    obtain ⟨i, q5, q6⟩ := hO.2.2 o q1 q3
    obtain ⟨j, q7, q8⟩ := hL.2.2.2.2.2 i q5 (by rw [q6]; simp only [stay, Bool.not_eq_true', decide_eq_false_iff_not]; exact fun g => q4 ⟨g.2, q1, g.1⟩)
    exact ⟨j, by rw [ec] at q7; exact q7, by rw [q8, q6]⟩
  · rw [h0 (hG.2.1 2 (by decide) (by decide)) (by decide) (by decide) (by decide) (by omega) (by decide) (by decide)]; exact a3
  · show va_cpy hf pf 0 0 8 j = va_cpy (σ.2 3) (σ.2 2) (10 * k) 0 8 j
    rcases Nat.lt_or_ge j 8 with h | h
    · have e1 : va_cpy hf pf 0 0 8 j = hf j := by have := cpy_at (f := hf) (g := pf) (sp := 0) (dp := 0) h; simpa using this
      have e2 : va_cpy (σ.2 3) (σ.2 2) (10 * k) 0 8 j = σ.2 3 (10 * k + j) := by have := cpy_at (f := σ.2 3) (g := σ.2 2) (sp := 10 * k) (dp := 0) h; simpa using this
      rw [e1, e2]; exact hh2 j h
    · rw [pk_cpy_out (by omega), pk_cpy_out (by omega)]; exact hp2 j hj
  · rw [h0 (hG.2.1 4 (by decide) (by decide)) (by decide) (by decide) (by decide) (by omega) (by decide) (by decide)]; exact a6
  · obtain ⟨f, q1, q2⟩ := a8 i hi
    exact ⟨f, by rw [h0 (hG.2.2.1 i hi) (by omega) (by omega) (by omega) (by omega) (by omega) (by omega)]; exact q1, fun h => q2 (Nat.lt_of_lt_of_le h hst)⟩
  · have ho' := (there_res1.mp ho).1
    obtain ⟨g8, g9, g10, g11⟩ := hG.2.2.2.2.1 o ho'
    obtain ⟨q1, q2, q3, q4⟩ := hT o ho'
    obtain ⟨p1, p2⟩ := hP.2 o ho'
    refine ⟨?_, (p1.same (h1 g9 (by omega) (by omega) (by omega) (by omega))).to (fun i hi => ?_), q3.same (h0 g10 (by omega) (by omega) (by omega) (by omega) (by omega) (by omega)), (p2.same (h1 g11 (by omega) (by omega) (by omega) (by omega))).to (fun i hi => ?_)⟩
    · rw [h0 g8 (by omega) (by omega) (by omega) (by omega) (by omega) (by omega)]; exact q1
    · exact cD_undo hlo hap _
    · rw [oD_own hsv hlo]
      show nI (ownr σ k (8 * o + i)) = nI (ownr (doRestore σ k) k (8 * o + i))
      rw [ow k _ (Nat.le_refl _)]
  · obtain ⟨t6, t7⟩ := hG.2.2.2.1 i hi
    have e7 := h0 t7 (by omega) (by omega) (by omega) (by omega) (by omega) (by omega)
    by_cases e : i = k
    · subst e
      exact ⟨fun h => absurd (show i < i from h) (Nat.lt_irrefl _), fun _ => ⟨_, _, _, hf, m6, by rw [e7]; exact hh⟩⟩
    · have e6 := h0 t6 (by omega) (by omega) (by omega) (by omega) (by omega) (by omega)
      refine ⟨fun h => ?_, fun h => ?_⟩
      · have h' : i < k := h
        obtain ⟨p1, p2⟩ := (hS i hi).1 (by omega)
        refine ⟨?_, p2.same e7⟩
        rw [e6, p1, rbx_res hsv (by omega), rbx_res hsv (by omega)]; rfl
      · have h' : k ≤ i := h
        obtain ⟨n, f, p, g9, p1, p2⟩ := (hS i hi).2 (by omega)
        exact ⟨n, f, p, g9, by rw [e6]; exact p1, by rw [e7]; exact p2⟩
  · have q1' : i < k := q1
    rw [rbx_res hsv (by omega)] at q2 q3
    have t := hG.2.2.2.2.2 r (Nat.lt_of_lt_of_le q3 (rbx_le hI _))
    exact (hR i r (by omega) q2 q3).mv (h0 t (by omega) (by omega) (by omega) (by omega) (by omega) (by omega)) rfl rfl (ow _ _ (by omega)) (rbx_res hsv (by omega))
set_option maxHeartbeats 4000000 in
set_option maxRecDepth 100000 in
theorem c_restore (l : Launch) (hl : l.stackTraces = false) (base : Nat) (D : va_G) (ct : Nat → ClassId) (sa : Nat → Nat) {A : Nat → Nat → Nat} {G ob : Nat → Nat} {σ : Sg} {M : Mem} {x B : Nat} (hC : RepC ct A G ob σ M x) (hI : Inv B σ) (hB : B ≤ 600) (n : Int32) :
    CT l yX3_restore (.code yX3_restore cX3_restore 3 (some .int) :: WL) (rmK 7 3 18) base D ct sa M [.ref x, .int n] (PostC ct G M x (0, oRestore σ n)) noX := by
  refine CT.of hl (by decide) (Nat.le_of_ble_eq_true rfl) ?_
  intro p e s m below meth c C hr hx
  obtain ⟨hx0, hG, hO, hA, hT, hS, hR⟩ := id hC
  obtain ⟨sf9, hsf, hsf2⟩ := hA.2.1
  obtain ⟨pf, hp, hp2⟩ := hA.2.2.1
  obtain ⟨⟨i1, i2, i3, i4, i5, i6, i7, i8⟩, iT, ⟨m1, m2, m3, m4⟩, -⟩ := id hI
  refine V_iload_n C dX3_restore_0 (by rfl) ?_
  refine V_iconst C (1) dX3_restore_1 (by decide) ?_
  refine V_icmp_lt C 13 dX3_restore_2 (by decide) (fun h2 => ?_) (fun h2 => ?_)
  · refine V_iconst C (-1) dX3_restore_13 (by decide) ?_
    exact V_iret C hr (by decide) (by decide) dX3_restore_14 (by rw [show oRestore σ n = (-1, σ) by unfold oRestore; rw [if_pos (Or.inl h2)]]; exact ⟨rfl, rfl, A, G, ob, hC, FrC.rfl⟩)
  · refine V_iload_n C dX3_restore_5 (by rfl) ?_
    refine V_aload_n C dX3_restore_6 (by rfl) ?_
    refine V_get C (ci := 3) hx0 rfl wu_X3 5 (by decide) fl_X3_31 rfl (by rfl) dX3_restore_7 ?_
    refine V_icmp_le C 15 dX3_restore_10 (by decide) (fun h10 => ?_) (fun h10 => ?_)
    · have c1 : ¬ (n < 1 ∨ nI (gLast σ) < n) := by rintro (h | h); exact h2 h; exact Int32.not_lt.mpr h10 h
      refine V_aload_n C dX3_restore_15 (by rfl) ?_
      refine V_iload_n C dX3_restore_16 (by rfl) ?_
      refine V_callV C hx (As := [.int n]) (c_placeOfLiving l hl base D ct sa hC hI hB n) w_X3_117 hx0 rfl rfl (by decide) (Nat.le_of_ble_eq_true rfl) ⟨by decide, by decide⟩ dX3_restore_17 (by decide) (by decide) (fun _ _ h => h.elim) (fun v9 M1 hv => ?_)
      obtain ⟨⟨z, rfl, hz⟩, rfl⟩ := hv
      refine VV.eqv (st' := [.int z]) rfl rfl ?_
      rcases hz with ⟨k, hk, en, rfl⟩ | ⟨hno, rfl⟩
      · have hlv : isLv σ n = true := by simp only [isLv, List.any_eq_true, List.mem_range, decide_eq_true_eq]; exact ⟨k, hk, en⟩
        have hnk := (m1 k hk).2
        have hnl := fun h0 : 0 < gSv σ => (m1 (gSv σ - 1) (by omega)).2
        refine V_istore_n C dX3_restore_20 (by decide) ?_
        refine V_iload_n C dX3_restore_21 (by rfl) ?_
        refine V_if_ge C 28 dX3_restore_22 (by decide) (fun h_22 => ?_) (fun h_22 => absurd h_22 (fun h => h (nI_pos' (by omega))))
        refine V_iload_n C dX3_restore_28 (by rfl) ?_
        refine V_aload_n C dX3_restore_29 (by rfl) ?_
        refine V_get C (ci := 3) hx0 rfl wu_X3 4 (by decide) fl_X3_28 rfl (by rfl) dX3_restore_30 ?_
        refine V_iconst C (1) dX3_restore_33 (by decide) ?_
        refine V_isub C dX3_restore_34 ?_
        refine V_top (y := nI (gSv σ - 1)) (pk_sub (b := 1) (by omega)) ?_
        refine V_icmp_ge C 41 dX3_restore_35 (by decide) (fun h35 => ?_) (fun h35 => ?_)
        · have hsv : gSv σ = k + 1 := by have := (nI_leI (by omega) (by omega)).mp h35; omega
          have hkk : gSv σ - 1 = k := by omega
          have g6 := hG.2.2.2.1 k (by omega)
          have g1 := hG.2.1 1 (by decide) (by decide)
          have g3 := hG.2.1 3 (by decide) (by decide)
          have nx1 : x ≠ A 1 0 := ne_tag hG.1 g1 (by decide)
          have nx3 : x ≠ A 3 0 := ne_tag hG.1 g3 (by decide)
          have nx6 : x ≠ A 6 k := ne_tag hG.1 g6.1 (by omega)
          have n31 : A 3 0 ≠ A 1 0 := ne_tag g3 g1 (by decide)
          have n36 : A 3 0 ≠ A 6 k := ne_tag g3 g6.1 (by omega)
          have n16 : A 1 0 ≠ A 6 k := ne_tag g1 g6.1 (by omega)
          obtain ⟨hf, hh, hh2⟩ := ((hS k (by omega)).1 hk).2
          refine V_aload_n C dX3_restore_41 (by rfl) ?_
          refine V_aload_n C dX3_restore_42 (by rfl) ?_
          refine V_get C (ci := 3) hx0 rfl wu_X3 3 (by decide) fl_X3_24 rfl (by rfl) dX3_restore_43 ?_
          refine V_iload_n C dX3_restore_46 (by rfl) ?_
          refine N_aldS C hsf (by omega) (by decide) (hsf2 k (by omega)) dX3_restore_47 ?_
          refine V_callV C hx (As := [.ref (A 6 k)]) (c_keptRefersToNewer l hl base D ct sa hC hI hB hk) w_X3_121 hx0 rfl rfl (by decide) (Nat.le_of_ble_eq_true rfl) ⟨by decide, by decide⟩ dX3_restore_48 (by decide) (by decide) (fun _ _ h => h.elim) (fun v9 M2 hv => ?_)
          obtain ⟨rfl, rfl⟩ := hv
          refine VV.eqv (st' := [.int (b2i (isNw σ (gPa σ 8) (gFst σ k) || isNw σ (gPa σ 9) (gFst σ k)))]) rfl rfl ?_
          refine V_if_eq C 57 dX3_restore_51 (by decide) (fun h51 => ?_) (fun h51 => ?_)
          · have hnn : ¬ (isNw σ (gPa σ 8) (gFst σ k) = true ∨ isNw σ (gPa σ 9) (gFst σ k) = true) := by
              rintro (h | h)
              · rw [h] at h51; exact absurd h51 (by simp [b2i])
              · rw [h, Bool.or_true] at h51; exact absurd h51 (by decide)
            refine V_aload_n C dX3_restore_57 (by rfl) ?_
            refine V_aload_n C dX3_restore_58 (by rfl) ?_
            refine V_get C (ci := 3) hx0 rfl wu_X3 3 (by decide) fl_X3_24 rfl (by rfl) dX3_restore_59 ?_
            refine V_iload_n C dX3_restore_62 (by rfl) ?_
            refine N_aldS C hsf (by omega) (by decide) (hsf2 k (by omega)) dX3_restore_63 ?_
            refine V_callV C hx (As := [.ref (A 6 k)]) (c_undoSince l hl base D ct sa hC hI hB hsv hp hh) w_X3_125 hx0 rfl rfl (by decide) (Nat.le_of_ble_eq_true rfl) ⟨by decide, by decide⟩ dX3_restore_64 (by decide) (by decide) (fun _ _ h => h.elim) (fun v9 M3 hv => ?_)
            obtain ⟨rfl, M1', hP, c9, tf', ob', hL, rfl⟩ := hv
            refine VV.eqv (st' := []) rfl rfl ?_
            refine V_aload_n C dX3_restore_67 (by rfl) ?_
            refine V_dup C dX3_restore_68 rfl ?_
            refine V_get C (ci := 3) ((mput_ne nx3).trans (mput_eq _ _ _)) rfl wu_X3 4 (by decide) fl_X3_28 rfl (by rfl) dX3_restore_69 ?_
            refine V_iconst C (1) dX3_restore_72 (by decide) ?_
            refine V_isub C dX3_restore_73 ?_
            refine V_top (y := nI k) (by rw [hsv]; exact nI_pred k) ?_
            refine V_put C (ci := 3) ((mput_ne nx3).trans (mput_eq _ _ _)) rfl wu_X3 4 (by decide) fl_X3_28 rfl tyX3 tyX3_ok nmX3 rfl (by rfl) (by rfl) (Nat.le_of_ble_eq_true rfl) dX3_restore_74 ?_
            refine V_iconst C (1) dX3_restore_77 (by decide) ?_
            exact V_iret C hr (by decide) (by decide) dX3_restore_78 (by
              rw [show oRestore σ n = (1, doRestore σ k) by unfold oRestore; rw [if_neg c1, if_neg (by rw [hlv]; decide), if_neg (by rw [hkk]; exact fun h => h en), if_neg (by rw [hkk]; exact hnn), hkk]]
              refine ⟨rfl, rfl, A, G, ob', restoreC hC hI hsv hp2 hh2 hh hP hL (fun a h1 h2 h3 h4 => ?_) (mput_eq _ _ _) ?_ ?_ ?_, FrC.of (fun a ha => ?_)⟩
              · rw [mput_ne h1, mput_ne h3, mput_ne h1, mput_ne h2, mput_ne h4]
              · rw [mput_ne nx1.symm, mput_ne n31.symm, mput_ne nx1.symm, mput_eq]
              · rw [mput_ne nx3.symm, mput_eq]
              · rw [mput_ne nx6.symm, mput_ne n36.symm, mput_ne nx6.symm, mput_ne n16.symm, mput_eq]
              · have e1 := ne_tag ha hG.1 (by decide)
                have e2 := ne_tag ha g1 (by decide)
                have e3 := ne_tag ha g3 (by decide)
                have e4 := ne_tag ha g6.1 (by omega)
                rw [mput_ne e1, mput_ne e3, mput_ne e1, mput_ne e2, mput_ne e4]
                exact hP.1 a (fun o ho => ⟨ne_tag ha (hG.2.2.2.2.1 o ho).2.1 (by omega), ne_tag ha (hG.2.2.2.2.1 o ho).2.2.2 (by omega)⟩))
          · refine V_bipush C (-4) dX3_restore_54 (by decide) ?_
            exact V_iret C hr (by decide) (by decide) dX3_restore_56 (by rw [show oRestore σ n = (-4, σ) by unfold oRestore; rw [if_neg c1, if_neg (by rw [hlv]; decide), if_neg (by rw [hkk]; exact fun h => h en), if_pos (by rw [hkk]; cases h8 : isNw σ (gPa σ 8) (gFst σ k) with | true => exact Or.inl rfl | false => (cases h9 : isNw σ (gPa σ 9) (gFst σ k) with | true => exact Or.inr rfl | false => rw [h8, h9] at h51; exact absurd rfl h51))]]; exact ⟨rfl, rfl, A, G, ob, hC, FrC.rfl⟩)
        · refine V_bipush C (-3) dX3_restore_38 (by decide) ?_
          exact V_iret C hr (by decide) (by decide) dX3_restore_40 (by rw [show oRestore σ n = (-3, σ) by unfold oRestore; rw [if_neg c1, if_neg (by rw [hlv]; decide), if_pos (fun e => h35 ((nI_leI (by omega) (by omega)).mpr (by have e2 := (nI_eq (by omega) (by omega)).mp (e.trans en.symm); rcases Nat.lt_or_ge k (gSv σ - 1) with q | q; have q2 := m2 k (gSv σ - 1) q (by omega); omega; exact q)))]]; exact ⟨rfl, rfl, A, G, ob, hC, FrC.rfl⟩)
      · refine V_istore_n C dX3_restore_20 (by decide) ?_
        refine V_iload_n C dX3_restore_21 (by rfl) ?_
        refine V_if_ge C 28 dX3_restore_22 (by decide) (fun h_22 => absurd h_22 (by decide)) (fun h_22 => ?_)
        refine V_bipush C (-2) dX3_restore_25 (by decide) ?_
        exact V_iret C hr (by decide) (by decide) dX3_restore_27 (by rw [show oRestore σ n = (-2, σ) by unfold oRestore; rw [if_neg c1, if_pos (by simp only [isLv, List.any_eq_false, List.mem_range, decide_eq_true_eq]; exact fun k hk => hno k hk)]]; exact ⟨rfl, rfl, A, G, ob, hC, FrC.rfl⟩)
    · refine V_iconst C (-1) dX3_restore_13 (by decide) ?_
      exact V_iret C hr (by decide) (by decide) dX3_restore_14 (by rw [show oRestore σ n = (-1, σ) by unfold oRestore; rw [if_pos (Or.inr (Int32.not_le.mp h10))]]; exact ⟨rfl, rfl, A, G, ob, hC, FrC.rfl⟩)
