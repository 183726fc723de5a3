/-! what holds of σ stays, call by call -/
theorem Inv.mono {B B' : Nat} {σ : Sg} (h : Inv B σ) (hB : B ≤ B') : Inv B' σ := by
  obtain ⟨⟨i1, i2, i3, i4⟩, h2⟩ := h
  exact ⟨⟨Nat.le_trans i1 hB, Nat.le_trans i2 hB, Nat.le_trans i3 hB, i4⟩, h2⟩
theorem inv_state {B : Nat} {σ : Sg} (h : Inv B σ) {j : Nat} {v : Int32} (hv : isV σ v = true) : Inv (B + 1) (sw σ 2 (va_up (σ.2 2) j v)) := by
  obtain ⟨i1, i2, i3, i4, ⟨⟨v8, v9⟩, i5⟩, i6⟩ := h.mono (Nat.le_succ B)
  refine ⟨i1, i2, i3, i4, ⟨⟨?_, ?_⟩, i5⟩, i6⟩
  · show isV σ (va_up (σ.2 2) j v 8) = true
    unfold va_up; split
    · exact hv
    · exact v8
  · show isV σ (va_up (σ.2 2) j v 9) = true
    unfold va_up; split
    · exact hv
    · exact v9
theorem inv_bytes {B : Nat} {σ : Sg} (h : Inv B σ) {o j : Nat} (ho : o < gMade σ) (hj : j < 8) {v : Int32} : Inv (B + 1) (sw σ 1 (va_up (σ.2 1) (8 * o + j) v)) := by
  obtain ⟨i1, ⟨t1, t2, t3, t4⟩, i3, i4, i5, i6⟩ := h.mono (Nat.le_succ B)
  refine ⟨i1, ⟨t1, t2, t3, fun q hq => ⟨(t4 q hq).1, ?_⟩⟩, i3, i4, i5, i6⟩
  show va_up (σ.2 1) (8 * o + j) v q = 0
  have hq' : 8 * gMade σ ≤ q := hq
  rw [va_up_ne _ _ (by omega)]
  exact (t4 q hq).2
theorem inv_push {B : Nat} {σ : Sg} (h : Inv B σ) (hlt : gSt σ < 30) {g : Nat → Int32} : Inv (B + 1) (sf (sw σ 5 g) 13 (sk (gSt σ + 1))) := by
  obtain ⟨⟨a1, a2, a3, a4, a5, a6, a7, a8⟩, i2, i3, ⟨r1, r2, r3, r4, r5, r6⟩, i5, i6⟩ := h.mono (Nat.le_succ B)
  exact ⟨⟨a1, a2, a3, a4, a5, hlt, a7, a8⟩, i2, i3, ⟨r1, r2, fun k hk => Nat.le_succ_of_le (r3 k hk), r4, r5, r6⟩, i5, i6⟩
theorem inv_pop {B : Nat} {σ : Sg} (h : Inv B σ) (hp : 0 < ownS σ) {f : Nat → Int32} {n : Nat} : Inv (B + 1) (sw (sf σ 13 (sk (gSt σ - 1))) 2 (va_cpy f (σ.2 2) n 0 8)) := by
  obtain ⟨⟨a1, a2, a3, a4, a5, a6, a7, a8⟩, i2, i3, ⟨r1, r2, r3, r4, r5, r6⟩, ⟨⟨v8, v9⟩, i5⟩, i6⟩ := h.mono (Nat.le_succ B)
  refine ⟨⟨a1, a2, a3, a4, a5, Nat.le_trans (Nat.sub_le _ _) a6, a7, a8⟩, i2, i3, ⟨r1, r2, fun k hk => ?_, r4, r5, r6⟩, ⟨⟨?_, ?_⟩, i5⟩, i6⟩
  · have hk' : k < gSv σ := hk
    show gSb σ k ≤ gSt σ - 1
    have h1 := r4 k (gSv σ - 1) (by omega) (by omega)
    unfold ownS at hp
    rw [if_neg (by omega)] at hp
    omega
  · show isV σ (va_cpy f (σ.2 2) n 0 8 8) = true
    rw [pk_cpy_out (by omega)]; exact v8
  · show isV σ (va_cpy f (σ.2 2) n 0 8 9) = true
    rw [pk_cpy_out (by omega)]; exact v9
theorem isV_of {σ σ' : Sg} (h : ∀ o, o < gMade σ → gThere σ o = 1 → o < gMade σ' ∧ gThere σ' o = 1) {v : Int32} (hv : isV σ v = true) : isV σ' v = true := by
  simp only [isV, isO, Bool.or_eq_true, decide_eq_true_eq] at hv ⊢
  rcases hv with hv | ⟨h1, h2, h3⟩
  · exact Or.inl hv
  · exact Or.inr ⟨h1, h _ h2 h3⟩
theorem inv_object {B : Nat} {σ : Sg} (h : Inv B σ) (hlt : gAlive σ < 200) (g : Int32) : Inv (B + 1) (sObj σ g) := by
  obtain ⟨⟨a1, a2, a3, a4, a5, a6, a7, a8⟩, ⟨t1, t2, t3, t4⟩, ⟨n1, n2, n3, n4⟩, i4, ⟨⟨v8, v9⟩, i5⟩, i6⟩ := h
  have et : ∀ o, gThere (sObj σ g) o = va_up (σ.1 2) (gMade σ) 1 o := fun _ => rfl
  have eg : ∀ o, gGlob (sObj σ g) o = va_up (σ.1 3) (gMade σ) (if g = 0 then 0 else 1) o := fun _ => rfl
  have hth : ∀ o, o < gMade σ → gThere σ o = 1 → o < gMade (sObj σ g) ∧ gThere (sObj σ g) o = 1 := fun o h1 h2 => ⟨Nat.lt_succ_of_lt h1, by rw [et, va_up_ne _ _ (by omega)]; exact h2⟩
  refine ⟨⟨Nat.succ_le_succ a1, Nat.le_succ_of_le a2, Nat.le_succ_of_le a3, hlt, a5, a6, a7, a8⟩, ⟨fun o => ?_, fun o => ?_, fun o ho => ?_, fun j hj => t4 j (by have hj' : 8 * (gMade σ + 1) ≤ j := hj; omega)⟩, ⟨n1, n2, fun k hk => Nat.le_succ_of_le (n3 k hk), n4⟩, i4, ⟨⟨isV_of hth v8, isV_of hth v9⟩, i5⟩, fun k r h1 h2 h3 => ?_⟩
  · rw [et]; unfold va_up; split
    · exact Nat.le_refl _
    · exact t1 o
  · rw [eg]; unfold va_up; split
    · split <;> omega
    · exact t2 o
  · show o < gMade σ + 1
    rw [et] at ho
    by_cases e : o = gMade σ
    · omega
    · rw [va_up_ne _ _ e] at ho; have := t3 o ho; omega
  · obtain ⟨q1, q2, q3⟩ := i6 k r h1 h2 h3
    have := t3 _ q2
    refine ⟨q1, ?_, ?_⟩
    · rw [et]; show va_up (σ.1 2) (gMade σ) 1 (gPl σ r / 8) = 1; rw [va_up_ne _ _ (by omega)]; exact q2
    · rw [eg]; show va_up (σ.1 3) (gMade σ) _ (gPl σ r / 8) = 0; rw [va_up_ne _ _ (by omega)]; exact q3
/-- rows behind a new one -/
theorem rbx_keep {σ : Sg} {c k : Nat} : rbx (doKeep σ c) k = if k < gSv σ then gRb σ k else gRows σ + 1 := rfl
theorem kept_iff {σ : Sg} {o c : Nat} : kept σ o c = true ↔ (0 < gSv σ ∧ gGlob σ o = 0 ∧ o < gFst σ (gSv σ - 1)) ∧ hasR σ (gRb σ (gSv σ - 1)) (gRows σ) c = false := by
  unfold kept; simp
theorem inv_keep {B : Nat} {σ : Sg} (h : Inv B σ) {o j : Nat} (ho : gThere σ o = 1) (hj : j < 8) (hk : kept σ o (8 * o + j) = true) : Inv (B + 1) (doKeep σ (8 * o + j)) := by
  obtain ⟨⟨a1, a2, a3, a4, a5, a6, a7, a8⟩, ⟨t1, t2, t3, t4⟩, ⟨n1, n2, n3, n4⟩, ⟨r1, r2, r3, r4, r5, r6⟩, ⟨⟨v8, v9⟩, i5⟩, i6⟩ := h
  obtain ⟨⟨k1, k2, k3⟩, k4⟩ := kept_iff.mp hk
  have ep : ∀ r, gPl (doKeep σ (8 * o + j)) r = va_up (σ.1 12) (gRows σ) (8 * o + j) r := fun _ => rfl
  have rb0 : ∀ k, k < gSv σ → rbx (doKeep σ (8 * o + j)) k = rbx σ k := fun k hk => by rw [rbx_keep, if_pos hk]; unfold rbx; rw [if_pos hk]
  have rb1 : ∀ k, k + 1 < gSv σ → rbx (doKeep σ (8 * o + j)) (k + 1) = rbx σ (k + 1) := fun k hk => rb0 _ hk
  have rbt : rbx σ (gSv σ - 1) = gRb σ (gSv σ - 1) := by unfold rbx; rw [if_pos (by omega)]
  have rbe : rbx σ (gSv σ - 1 + 1) = gRows σ := by unfold rbx; rw [if_neg (by omega)]
  have rbE : rbx (doKeep σ (8 * o + j)) (gSv σ - 1 + 1) = gRows σ + 1 := by rw [rbx_keep, if_neg (by omega)]
  have rle : ∀ k, rbx σ k ≤ gRows σ := fun k => by unfold rbx; split; exact r1 k (by assumption); exact Nat.le_refl _
  refine ⟨⟨Nat.le_succ_of_le a1, Nat.succ_le_succ a2, Nat.le_succ_of_le a3, a4, a5, a6, a7, a8⟩, ⟨t1, t2, t3, t4⟩, ⟨n1, n2, n3, n4⟩, ⟨fun k hk => Nat.le_succ_of_le (r1 k hk), r2, r3, r4, fun h => absurd h (show gSv σ ≠ 0 by omega), r6⟩, ⟨⟨v8, v9⟩, fun k r r' h1 h2 h3 h4 => ?_⟩, fun k r h1 h2 h3 => ?_⟩
  · have h1' : k < gSv σ := h1
    rw [ep, ep]
    rw [rb0 k h1'] at h2
    by_cases e : k + 1 < gSv σ
    · rw [rb1 k e] at h4
      have := rle (k + 1)
      rw [va_up_ne _ _ (by omega), va_up_ne _ _ (by omega)]
      exact i5 k r r' h1' h2 h3 h4
    · have ek : k = gSv σ - 1 := by omega
      subst ek
      rw [rbE] at h4
      by_cases e2 : r' = gRows σ
      · subst e2
        rw [va_up_self, va_up_ne _ _ (by omega)]
        intro e3
        have : hasR σ (gRb σ (gSv σ - 1)) (gRows σ) (8 * o + j) = true := hasR_iff.mpr ⟨r, by rw [← rbt]; exact h2, h3, e3⟩
        rw [k4] at this; cases this
      · rw [va_up_ne _ _ (by omega), va_up_ne _ _ e2]
        exact i5 _ r r' h1' h2 h3 (by rw [rbe]; omega)
  · have h1' : k < gSv σ := h1
    show gPl (doKeep σ (8 * o + j)) r / 8 < gFst σ k ∧ gThere σ (gPl (doKeep σ (8 * o + j)) r / 8) = 1 ∧ gGlob σ (gPl (doKeep σ (8 * o + j)) r / 8) = 0
    rw [ep]
    rw [rb0 k h1'] at h2
    by_cases e : r = gRows σ
    · subst e
      have ek : k = gSv σ - 1 := by
        rcases Nat.lt_or_ge (k + 1) (gSv σ) with g | g
        · rw [rb1 k g] at h3; have := rle (k + 1); omega
        · omega
      subst ek
      rw [va_up_self, show (8 * o + j) / 8 = o by omega]
      exact ⟨k3, ho, k2⟩
    · rw [va_up_ne _ _ e]
      refine i6 k r h1' h2 ?_
      rcases Nat.lt_or_ge (k + 1) (gSv σ) with g | g
      · rw [rb1 k g] at h3; exact h3
      · have ek : k = gSv σ - 1 := by omega
        subst ek
        rw [rbE] at h3
        rw [rbe]; omega
theorem inv_cells {B : Nat} {σ : Sg} (h : Inv B σ) {o j : Nat} (ho : o < gMade σ) (hj : j < 8) {v : Int32} : Inv B (sw σ 0 (va_up (σ.2 0) (8 * o + j) v)) := by
  obtain ⟨i1, ⟨t1, t2, t3, t4⟩, i3, i4, i5, i6⟩ := h
  refine ⟨i1, ⟨t1, t2, t3, fun q hq => ⟨?_, (t4 q hq).2⟩⟩, i3, i4, i5, i6⟩
  show va_up (σ.2 0) (8 * o + j) v q = 0
  have hq' : 8 * gMade σ ≤ q := hq
  rw [va_up_ne _ _ (by omega)]
  exact (t4 q hq).1
def sSave (σ : Sg) : Sg := sf (sf (sw (sf (sf (sf (sf (sf σ 5 (sk (gLast σ + 1))) 7 (va_up (σ.1 7) (gSv σ) (gLast σ + 1))) 8 (va_up (σ.1 8) (gSv σ) (gMade σ))) 9 (va_up (σ.1 9) (gSv σ) (gRows σ))) 10 (va_up (σ.1 10) (gSv σ) (gSt σ))) 3 (va_cpy (σ.2 2) (σ.2 3) 0 (10 * gSv σ) 10)) 4 (sk (gSv σ + 1))) 6 (sk (max (gDeep σ) (gSv σ + 1)))
theorem rbx_save {σ : Sg} (k : Nat) : rbx (sSave σ) k = rbx σ k := by
  show (if k < gSv σ + 1 then va_up (σ.1 9) (gSv σ) (gRows σ) k else gRows σ) = if k < gSv σ then gRb σ k else gRows σ
  by_cases e : k = gSv σ
  · subst e; rw [if_pos (Nat.lt_succ_self _), va_up_self, if_neg (Nat.lt_irrefl _)]
  · rw [va_up_ne _ _ e]
    by_cases g : k < gSv σ
    · rw [if_pos g, if_pos (by omega)]
    · rw [if_neg g, if_neg (by omega)]
theorem inv_save {B : Nat} {σ : Sg} (h : Inv B σ) (hlt : gSv σ < 16) : Inv (B + 1) (sSave σ) := by
  obtain ⟨⟨a1, a2, a3, a4, a5, a6, a7, a8⟩, i2, ⟨n1, n2, n3, n4⟩, ⟨r1, r2, r3, r4, r5, r6⟩, ⟨i5, i5b⟩, i6⟩ := h
  have ev : gSv (sSave σ) = gSv σ + 1 := rfl
  have en : ∀ k, gNum (sSave σ) k = va_up (σ.1 7) (gSv σ) (gLast σ + 1) k := fun _ => rfl
  have ef : ∀ k, gFst (sSave σ) k = va_up (σ.1 8) (gSv σ) (gMade σ) k := fun _ => rfl
  have er : ∀ k, gRb (sSave σ) k = va_up (σ.1 9) (gSv σ) (gRows σ) k := fun _ => rfl
  have es : ∀ k, gSb (sSave σ) k = va_up (σ.1 10) (gSv σ) (gSt σ) k := fun _ => rfl
  refine ⟨⟨Nat.le_succ_of_le a1, Nat.le_succ_of_le a2, Nat.succ_le_succ a3, a4, hlt, a6, Nat.le_max_right _ _, Nat.max_le.mpr ⟨a8, hlt⟩⟩, i2, ⟨fun k hk => ?_, fun i k hik hk => ?_, fun k hk => ?_, fun i k hik hk => ?_⟩, ⟨fun k hk => ?_, fun i k hik hk => ?_, fun k hk => ?_, fun i k hik hk => ?_, fun h => absurd h (Nat.succ_ne_zero _), fun _ => ?_⟩, ⟨i5, fun k r r' h1 h2 h3 h4 => ?_⟩, fun k r h1 h2 h3 => ?_⟩
  · rw [ev] at hk; rw [en]; show 1 ≤ _ ∧ _ ≤ gLast σ + 1
    by_cases e : k = gSv σ
    · subst e; rw [va_up_self]; omega
    · rw [va_up_ne _ _ e]; have := n1 k (by omega); exact ⟨this.1, Nat.le_succ_of_le this.2⟩
  · rw [ev] at hk; rw [en, en, va_up_ne _ _ (show i ≠ gSv σ by omega)]
    by_cases e : k = gSv σ
    · subst e; rw [va_up_self]; have := (n1 i (by omega)).2; exact Nat.lt_succ_of_le this
    · rw [va_up_ne _ _ e]; exact n2 i k hik (by omega)
  · rw [ev] at hk; rw [ef]; show _ ≤ gMade σ
    by_cases e : k = gSv σ
    · subst e; rw [va_up_self]; exact Nat.le_refl _
    · rw [va_up_ne _ _ e]; exact n3 k (by omega)
  · rw [ev] at hk; rw [ef, ef]
    by_cases e : k = gSv σ
    · subst e; rw [va_up_self]
      by_cases e2 : i = gSv σ
      · subst e2; rw [va_up_self]; exact Nat.le_refl _
      · rw [va_up_ne _ _ e2]; exact n3 i (by omega)
    · rw [va_up_ne _ _ e, va_up_ne _ _ (by omega)]; exact n4 i k hik (by omega)
  · rw [ev] at hk; rw [er]; show _ ≤ gRows σ
    by_cases e : k = gSv σ
    · subst e; rw [va_up_self]; exact Nat.le_refl _
    · rw [va_up_ne _ _ e]; exact r1 k (by omega)
  · rw [ev] at hk; rw [er, er]
    by_cases e : k = gSv σ
    · subst e; rw [va_up_self]
      by_cases e2 : i = gSv σ
      · subst e2; rw [va_up_self]; exact Nat.le_refl _
      · rw [va_up_ne _ _ e2]; exact r1 i (by omega)
    · rw [va_up_ne _ _ e, va_up_ne _ _ (by omega)]; exact r2 i k hik (by omega)
  · rw [ev] at hk; rw [es]; show _ ≤ gSt σ
    by_cases e : k = gSv σ
    · subst e; rw [va_up_self]; exact Nat.le_refl _
    · rw [va_up_ne _ _ e]; exact r3 k (by omega)
  · rw [ev] at hk; rw [es, es]
    by_cases e : k = gSv σ
    · subst e; rw [va_up_self]
      by_cases e2 : i = gSv σ
      · subst e2; rw [va_up_self]; exact Nat.le_refl _
      · rw [va_up_ne _ _ e2]; exact r3 i (by omega)
    · rw [va_up_ne _ _ e, va_up_ne _ _ (by omega)]; exact r4 i k hik (by omega)
  · rw [er]
    by_cases e : gSv σ = 0
    · rw [e, va_up_self]; exact r5 e
    · rw [va_up_ne _ _ (by omega)]; exact r6 (by omega)
  · rw [ev] at h1
    rw [rbx_save] at h2 h4
    by_cases e : k = gSv σ
    · subst e; unfold rbx at h2 h4; rw [if_neg (by omega)] at h2 h4; omega
    · exact i5b k r r' (by omega) h2 h3 h4
  · rw [ev] at h1
    rw [rbx_save] at h2 h3
    by_cases e : k = gSv σ
    · subst e; unfold rbx at h2 h3; rw [if_neg (by omega)] at h2 h3; omega
    · rw [ef, va_up_ne _ _ e]; exact i6 k r (by omega) h2 h3
