/-! object -/
theorem seg {B : Nat} {σ : Sg} (hI : Inv B σ) : ∀ k, k ≤ gSv σ → ∀ r, r < rbx σ k → ∃ j, j < k ∧ rbx σ j ≤ r ∧ r < rbx σ (j + 1) := by
  intro k
  induction k with
  | zero =>
    intro _ r hr
    have : rbx σ 0 = 0 := by
      unfold rbx
      split
      · exact hI.2.2.2.1.2.2.2.2.2 (by assumption)
      · exact hI.2.2.2.1.2.2.2.2.1 (by omega)
    omega
  | succ k ih =>
    intro hk r hr
    rcases Nat.lt_or_ge r (rbx σ k) with h | h
    · obtain ⟨j, h1, h2⟩ := ih (by omega) r h
      exact ⟨j, by omega, h2⟩
    · exact ⟨k, by omega, h, hr⟩
theorem segR {B : Nat} {σ : Sg} (hI : Inv B σ) {r : Nat} (hr : r < gRows σ) : ∃ j, j < gSv σ ∧ rbx σ j ≤ r ∧ r < rbx σ (j + 1) :=
  seg hI (gSv σ) (Nat.le_refl _) r (by unfold rbx; rw [if_neg (Nat.lt_irrefl _)]; exact hr)
theorem ownr_none {B : Nat} {σ : Sg} (hI : Inv B σ) {c : Nat} (hc : gMade σ ≤ c / 8) : ∀ k, k ≤ gSv σ → ownr σ k c = 0 := by
  intro k
  induction k with
  | zero => intro _; rfl
  | succ k ih =>
    intro hk
    have hf : hasR σ (rbx σ k) (rbx σ (k + 1)) c = false := by
      rw [Bool.eq_false_iff]
      intro h
      obtain ⟨r, h1, h2, h3⟩ := hasR_iff.mp h
      have q1 := (hI.2.2.2.2.2 k r (by omega) h1 h2).1
      have q2 := hI.2.2.1.2.2.1 k (by omega)
      rw [h3] at q1
      omega
    simp only [ownr, hf]
    exact ih (by omega)
/-- every cell of the picture is there -/
theorem RepC.dom {ct : Nat → ClassId} {A : Nat → Nat → Nat} {G ob : Nat → Nat} {σ : Sg} {M : Mem} {x B : Nat} (hC : RepC ct A G ob σ M x) (hI : Inv B σ) : M x ≠ none ∧ (∀ k, 1 ≤ k → k < 5 → M (A k 0) ≠ none) ∧ (∀ k, k < 30 → M (A 5 k) ≠ none) ∧ (∀ k, k < 16 → M (A 6 k) ≠ none ∧ M (A 7 k) ≠ none) ∧ (∀ o, gThere σ o = 1 → M (A 8 o) ≠ none ∧ M (A 9 o) ≠ none ∧ M (A 10 o) ≠ none ∧ M (A 11 o) ≠ none) ∧ (∀ r, r < gRows σ → M (A 12 r) ≠ none) := by
  obtain ⟨hx0, hG, hO, ⟨⟨tf, a1, a2⟩, ⟨s9, a3, a4⟩, ⟨pf, a5, -⟩, ⟨uf, a6, a7⟩, a8⟩, hT, hS, hR⟩ := hC
  have nn : ∀ {a : Nat} {e : va_E}, M a = some e → M a ≠ none := fun h => by rw [h]; exact Option.some_ne_none _
  refine ⟨nn hx0, fun k h1 h2 => ?_, fun k hk => ?_, fun k hk => ?_, fun o ho => ?_, fun r hr => ?_⟩
  · rcases (show k = 1 ∨ k = 2 ∨ k = 3 ∨ k = 4 by omega) with rfl | rfl | rfl | rfl
    · exact nn a1
    · exact nn a3
    · exact nn a5
    · exact nn a6
  · obtain ⟨f, h, -⟩ := a8 k hk; exact nn h
  · rcases Nat.lt_or_ge k (gSv σ) with h | h
    · obtain ⟨g1, f, g2, -⟩ := (hS k hk).1 h; exact ⟨nn g1, nn g2⟩
    · obtain ⟨_, _, _, _, g1, g2⟩ := (hS k hk).2 h; exact ⟨nn g1, nn g2⟩
  · obtain ⟨h1, ⟨_, h2, -⟩, ⟨_, h3, -⟩, ⟨_, h4, -⟩⟩ := hT o ho
    exact ⟨nn h1, nn h2, nn h3, nn h4⟩
  · obtain ⟨k, h1, h2, h3⟩ := segR hI hr
    exact nn (hR k r h1 h2 h3)
def sObj (σ : Sg) (g : Int32) : Sg := sf (sf (sf (sf σ 2 (va_up (σ.1 2) (gMade σ) 1)) 3 (va_up (σ.1 3) (gMade σ) (if g = 0 then 0 else 1))) 1 (sk (gAlive σ + 1))) 0 (sk (gMade σ + 1))
set_option maxHeartbeats 4000000 in
theorem objectC {ct : Nat → ClassId} {A : Nat → Nat → Nat} {G ob : Nat → Nat} {σ : Sg} {M : Mem} {x B : Nat} (hC : RepC ct A G ob σ M x) (hI : Inv B σ) {g : Int32} (hg : g = 0 ∨ g = 1) {t q1 q2 q3 : Nat} (ft : M t = none) (f1 : M q1 = none) (f2 : M q2 = none) (f3 : M q3 = none) (n1 : t ≠ q1) (n2 : t ≠ q2) (n3 : t ≠ q3) (n12 : q1 ≠ q2) (n13 : q1 ≠ q3) (n23 : q2 ≠ q3) {tf : Nat → Option Nat} (htf2 : ∀ j, j < gAlive σ → tf j = some (A 8 (ob j))) {M' : Mem} (hold : ∀ a, M a ≠ none → a ≠ x → a ≠ A 1 0 → M' a = M a)
    (mx : M' x = some (.inr (3, [.ref (A 1 0), .int (nI (gAlive σ + 1)), .int (nI (gMade σ + 1)), .ref (A 2 0), .int (nI (gSv σ)), .int (nI (gLast σ)), .int (nI (gDeep σ)), .ref (A 3 0), .ref (A 4 0), .int (nI (gSt σ))]))) (mT : M' (A 1 0) = some (.inl (ct 4, 200, .inr (.inr (.inr (.inr (va_up tf (gAlive σ) (some t)))))))) (mt : M' t = some (.inr (2, [.int (nI (gMade σ)), .int g, .ref q1, .ref q2, .ref q3]))) (m1 : M' q1 = some (ar0 ct 8)) (m2 : M' q2 = some (ar0 ct 8)) (m3 : M' q3 = some (ar0 ct 8)) : HoldC ct G M (sObj σ g) M' x := by
  obtain ⟨D1, D2, D3, D4, D5, D6⟩ := RepC.dom hC hI
  obtain ⟨hx0, hG, hO, ⟨⟨tf0, a1, a2⟩, ⟨s9, a3, a4⟩, a5, ⟨uf, a6, a7⟩, a8⟩, hT, hS, hR⟩ := hC
  obtain ⟨A', hA8, hA9, hA10, hA11, hAo⟩ : ∃ A' : Nat → Nat → Nat, A' 8 (gMade σ) = t ∧ A' 9 (gMade σ) = q1 ∧ A' 10 (gMade σ) = q2 ∧ A' 11 (gMade σ) = q3 ∧ ∀ r i, (r < 8 ∨ 11 < r ∨ i ≠ gMade σ) → A' r i = A r i := by
    refine ⟨fun r i => if i = gMade σ then (if r = 8 then t else if r = 9 then q1 else if r = 10 then q2 else if r = 11 then q3 else A r i) else A r i, by simp, by simp, by simp, by simp, fun r i h => ?_⟩
    show (if i = gMade σ then (if r = 8 then t else if r = 9 then q1 else if r = 10 then q2 else if r = 11 then q3 else A r i) else A r i) = A r i
    split
    · rw [if_neg (by omega), if_neg (by omega), if_neg (by omega), if_neg (by omega)]
    · rfl
  obtain ⟨G', hGt, hG1, hG2, hG3, hGo⟩ : ∃ G' : Nat → Nat, G' t = 16 * gMade σ + 8 ∧ G' q1 = 16 * gMade σ + 9 ∧ G' q2 = 16 * gMade σ + 10 ∧ G' q3 = 16 * gMade σ + 11 ∧ ∀ a, a ≠ t → a ≠ q1 → a ≠ q2 → a ≠ q3 → G' a = G a := by
    refine ⟨fun a => if a = t then 16 * gMade σ + 8 else if a = q1 then 16 * gMade σ + 9 else if a = q2 then 16 * gMade σ + 10 else if a = q3 then 16 * gMade σ + 11 else G a, by simp, by simp [n1.symm], by simp [n2.symm, n12.symm], by simp [n3.symm, n13.symm, n23.symm], fun a h1 h2 h3 h4 => by simp [h1, h2, h3, h4]⟩
  have hGd : ∀ a, M a ≠ none → G' a = G a := fun a h => hGo a (fun e => h (by rw [e]; exact ft)) (fun e => h (by rw [e]; exact f1)) (fun e => h (by rw [e]; exact f2)) (fun e => h (by rw [e]; exact f3))
  have hmn : ∀ o, gThere σ o = 1 → o ≠ gMade σ := fun o h e => by have := hI.2.1.2.2.1 o h; omega
  have e0 : gMade (sObj σ g) = gMade σ + 1 := rfl
  have ea : gAlive (sObj σ g) = gAlive σ + 1 := rfl
  have et : ∀ o, gThere (sObj σ g) o = va_up (σ.1 2) (gMade σ) 1 o := fun _ => rfl
  have eg : ∀ o, gGlob (sObj σ g) o = va_up (σ.1 3) (gMade σ) (if g = 0 then 0 else 1) o := fun _ => rfl
  have ev : gSv (sObj σ g) = gSv σ := rfl
  have rb : ∀ k, rbx (sObj σ g) k = rbx σ k := fun _ => rfl
  have ow : ∀ k c, ownr (sObj σ g) k c = ownr σ k c := fun k c => ownr_congr k c (fun _ _ => rfl) (fun _ _ _ _ _ => rfl) (fun _ _ => rfl)
  have told : ∀ o, gThere (sObj σ g) o = 1 → o ≠ gMade σ → gThere σ o = 1 := fun o h hn => by rw [et, va_up_ne _ _ hn] at h; exact h
  have tneqT : ∀ a, G a ≠ 1 → a ≠ A 1 0 := fun a h e => h (by rw [e]; exact hG.2.1 1 (by decide) (by decide))
  have tneqx : ∀ a, G a ≠ 13 → a ≠ x := fun a h e => h (by rw [e]; exact hG.1)
  have mv : ∀ a, M a ≠ none → G a ≠ 1 → G a ≠ 13 → M' a = M a := fun a h1 h2 h3 => hold a h1 (tneqx a h3) (tneqT a h2)
  refine ⟨A', G', va_up ob (gAlive σ) (gMade σ), ⟨?_, ?_, ?_, ⟨⟨va_up tf (gAlive σ) (some t), ?_, fun j hj => ?_⟩, ⟨s9, ?_, fun k hk => ?_⟩, ?_, ⟨uf, ?_, fun k hk => ?_⟩, fun k hk => ?_⟩, fun o ho => ?_, fun k hk => ?_, fun k r h1 h2 h3 => ?_⟩, ?_, ?_⟩
  · rw [mx]; unfold xE; rw [hAo 1 0 (by omega), hAo 2 0 (by omega), hAo 3 0 (by omega), hAo 4 0 (by omega)]; rfl
  · refine ⟨by rw [hGd x D1]; exact hG.1, fun k h1 h2 => ?_, fun k hk => ?_, fun k hk => ?_, fun o ho => ?_, fun r hr => ?_⟩
    · rw [hAo k 0 (by omega), hGd _ (D2 k h1 h2)]; exact hG.2.1 k h1 h2
    · rw [hAo 5 k (by omega), hGd _ (D3 k hk)]; exact hG.2.2.1 k hk
    · rw [hAo 6 k (by omega), hAo 7 k (by omega), hGd _ (D4 k hk).1, hGd _ (D4 k hk).2]; exact hG.2.2.2.1 k hk
    · by_cases e : o = gMade σ
      · subst e; rw [hA8, hA9, hA10, hA11]; exact ⟨hGt, hG1, hG2, hG3⟩
      · have ho' := told o ho e
        obtain ⟨d1, d2, d3, d4⟩ := D5 o ho'
        rw [hAo 8 o (by omega), hAo 9 o (by omega), hAo 10 o (by omega), hAo 11 o (by omega), hGd _ d1, hGd _ d2, hGd _ d3, hGd _ d4]
        exact hG.2.2.2.2.1 o ho'
    · rw [hAo 12 r (by omega), hGd _ (D6 r hr)]; exact hG.2.2.2.2.2 r hr
  · refine ⟨fun j hj => ?_, fun i j hij hj => ?_, fun o h1 h2 => ?_⟩
    · rw [e0, et]
      by_cases e : j = gAlive σ
      · subst e; rw [va_up_self, va_up_self]; exact ⟨Nat.lt_succ_self _, rfl⟩
      · rw [va_up_ne _ _ e]
        have := hO.1 j (by rw [ea] at hj; omega)
        rw [va_up_ne _ _ (hmn _ this.2)]
        exact ⟨by omega, this.2⟩
    · rw [ea] at hj
      rw [va_up_ne _ _ (show i ≠ gAlive σ by omega)]
      by_cases e : j = gAlive σ
      · subst e; rw [va_up_self]; exact (hO.1 i hij).1
      · rw [va_up_ne _ _ e]; exact hO.2.1 i j hij (by omega)
    · by_cases e : o = gMade σ
      · subst e; exact ⟨gAlive σ, by rw [ea]; omega, va_up_self _ _ _⟩
      · obtain ⟨j, hj, rfl⟩ := hO.2.2 o (by rw [e0] at h1; omega) (told o h2 e)
        exact ⟨j, by rw [ea]; omega, va_up_ne _ _ (by omega)⟩
  · rw [hAo 1 0 (by omega)]; exact mT
  · by_cases e : j = gAlive σ
    · subst e; rw [va_up_self, va_up_self, hA8]
    · rw [va_up_ne _ _ e, va_up_ne _ _ e, htf2 j (by rw [ea] at hj; omega), hAo 8 _ (by have := hO.1 j (by rw [ea] at hj; omega); have := hmn _ this.2; omega)]
  · rw [hAo 2 0 (by omega), mv _ (D2 2 (by decide) (by decide)) (by rw [hG.2.1 2 (by decide) (by decide)]; decide) (by rw [hG.2.1 2 (by decide) (by decide)]; decide)]; exact a3
  · rw [hAo 6 k (by omega)]; exact a4 k hk
  · rw [hAo 3 0 (by omega)]; exact a5.same (mv _ (D2 3 (by decide) (by decide)) (by rw [hG.2.1 3 (by decide) (by decide)]; decide) (by rw [hG.2.1 3 (by decide) (by decide)]; decide))
  · rw [hAo 4 0 (by omega), mv _ (D2 4 (by decide) (by decide)) (by rw [hG.2.1 4 (by decide) (by decide)]; decide) (by rw [hG.2.1 4 (by decide) (by decide)]; decide)]; exact a6
  · rw [hAo 5 k (by omega)]; exact a7 k hk
  · rw [hAo 5 k (by omega), mv _ (D3 k hk) (by rw [hG.2.2.1 k hk]; omega) (by rw [hG.2.2.1 k hk]; omega)]; exact a8 k hk
  · by_cases e : o = gMade σ
    · subst e
      refine ⟨?_, ⟨_, by rw [hA9]; exact m1, fun i hi => ?_⟩, ⟨_, by rw [hA10]; exact m2, fun i hi => ?_⟩, ⟨_, by rw [hA11]; exact m3, fun i hi => ?_⟩⟩
      · rw [hA8, mt]; unfold tE; rw [hA9, hA10, hA11, eg, va_up_self]
        rcases hg with rfl | rfl <;> rfl
      · exact (hI.2.1.2.2.2 _ (by omega)).1.symm
      · exact (hI.2.1.2.2.2 _ (by omega)).2.symm
      · show (0 : Int32) = nI (ownr (sObj σ g) (gSv (sObj σ g)) (8 * gMade σ + i))
        rw [ow, ev, ownr_none hI (by omega) _ (Nat.le_refl _)]; rfl
    · have ho' := told o ho e
      obtain ⟨d1, d2, d3, d4⟩ := D5 o ho'
      obtain ⟨g1, g2, g3, g4⟩ := hG.2.2.2.2.1 o ho'
      obtain ⟨h1, h2, h3, h4⟩ := hT o ho'
      have b8 := hAo 8 o (by omega); have b9 := hAo 9 o (by omega); have b10 := hAo 10 o (by omega); have b11 := hAo 11 o (by omega)
      refine ⟨?_, ?_, ?_, ?_⟩
      · rw [b8, mv _ d1 (by rw [g1]; omega) (by rw [g1]; omega), h1]; unfold tE; rw [b9, b10, b11, eg, va_up_ne _ _ e]
      · rw [b9]; exact h2.same (mv _ d2 (by rw [g2]; omega) (by rw [g2]; omega))
      · rw [b10]; exact h3.same (mv _ d3 (by rw [g3]; omega) (by rw [g3]; omega))
      · rw [b11]; exact (h4.same (mv _ d4 (by rw [g4]; omega) (by rw [g4]; omega))).to (fun i _ => by rw [ow, ev])
  · obtain ⟨h1, h2⟩ := hS k hk
    obtain ⟨d1, d2⟩ := D4 k hk
    obtain ⟨g1, g2⟩ := hG.2.2.2.1 k hk
    have m6 := mv _ d1 (by rw [g1]; omega) (by rw [g1]; omega)
    have m7 := mv _ d2 (by rw [g2]; omega) (by rw [g2]; omega)
    have b6 := hAo 6 k (by omega); have b7 := hAo 7 k (by omega)
    have br : ∀ lo hi, rowOf A' lo hi = rowOf A lo hi := fun lo hi => by unfold rowOf; rw [hAo 12 _ (by omega)]
    refine ⟨fun h => ?_, fun h => ?_⟩
    · obtain ⟨p1, p2⟩ := h1 h
      refine ⟨?_, ?_⟩
      · rw [b6, m6, p1]; unfold sE; rw [b7, br]; rfl
      · rw [b7]; exact p2.same m7
    · obtain ⟨n, f, p, g9, p1, p2⟩ := h2 h
      refine ⟨n, f, p, g9, ?_, ?_⟩
      · rw [b6, m6, p1]; unfold sE; rw [b7]
      · rw [b7, m7]; exact p2
  · have hr := Nat.lt_of_lt_of_le (show r < rbx σ (k + 1) from h3) (rbx_le hI _)
    have := hR k r h1 h2 h3
    have q := hI.2.2.2.2.2 k r h1 h2 h3
    unfold RepR at this ⊢
    rw [hAo 12 r (by omega), mv _ (D6 r hr) (by rw [hG.2.2.2.2.2 r hr]; omega) (by rw [hG.2.2.2.2.2 r hr]; omega), this]
    have br : ∀ lo hi, rowOf A' lo hi = rowOf A lo hi := fun lo hi => by unfold rowOf; rw [hAo 12 _ (by omega)]
    rw [br, ow]
    have : A' 8 (gPl (sObj σ g) r / 8) = A 8 (gPl σ r / 8) := hAo 8 _ (Or.inr (Or.inr (hmn _ q.2.1)))
    rw [this]; rfl
  · intro a h
    by_cases hM : M a = none
    · exact Or.inr hM
    · rw [hGd a hM] at h; exact Or.inl h
  · intro a h1 h2
    exact mv a h2 (by rw [h1]; decide) (by rw [h1]; decide)
set_option maxHeartbeats 4000000 in
set_option maxRecDepth 100000 in
theorem c_object (l : Launch) (hl : l.stackTraces = false) (base : Nat) (D : va_G) (ct : Nat → ClassId) (sa : Nat → Nat) {A : Nat → Nat → Nat} {G ob : Nat → Nat} {σ : Sg} {M : Mem} {x B : Nat} (hC : RepC ct A G ob σ M x) (hI : Inv B σ) (hB : B ≤ 600) (g : Int32) (hg : g = 0 ∨ g = 1) :
    CT l yX3_object (.code yX3_object cX3_object 3 (some .int) :: WL) (rmK 7 4 30) base D ct sa M [.ref x, .int g] (PostC ct G M x (oObject σ g)) (PxC nmU M (oObject σ g)) := by
  refine CT.of hl (by decide) (Nat.le_of_ble_eq_true rfl) ?_
  intro p e s m below meth c C hr hx
  obtain ⟨hx0, hG, hO, hA, hT, hS, hR⟩ := id hC
  obtain ⟨tf, htf, htf2⟩ := hA.1
  obtain ⟨⟨i1, i2, i3, i4, i5, i6, i7, i8⟩, -⟩ := id hI
  refine V_aload_n C dX3_object_0 (by rfl) ?_
  refine V_get C (ci := 3) hx0 rfl wu_X3 1 (by decide) fl_X3_15 rfl (by rfl) dX3_object_1 ?_
  refine V_sipush C (nI 200) dX3_object_4 (by decide) ?_
  refine V_icmp_lt C 20 dX3_object_7 (by decide) (fun h7 => ?_) (fun h7 => ?_)
  · have hlt : gAlive σ < 200 := (nI_ltI (by omega) (by decide)).mp h7
    refine V_new C (ci := 2) (fs := [.int 0, .int 0, .null, .null, .null]) rfl wu_X2 tyX2 tyX2_ok cl_X3_9 in_X2 ini_X2 (fun j hj => by rcases (show j = 0 ∨ j = 1 ∨ j = 2 ∨ j = 3 ∨ j = 4 by omega) with rfl | rfl | rfl | rfl | rfl <;> rfl) (by decide) (by decide) dX3_object_20 (fun t ft => ?_)
    have nx : x ≠ t := some_ne hx0 ft
    have nT : A 1 0 ≠ t := some_ne htf ft
    refine V_dup C dX3_object_23 rfl ?_
    refine V_aload_n C dX3_object_24 (by rfl) ?_
    refine V_get C (ci := 3) ((mput_ne nx).trans hx0) rfl wu_X3 2 (by decide) fl_X3_19 rfl (by rfl) dX3_object_25 ?_
    refine V_iload_n C dX3_object_28 (by rfl) ?_
    refine V_callI C (As := [.int (nI (gMade σ)), .int g]) (c_ThingInit l hl base D ct sa (nI (gMade σ)) g hg (mput_eq _ _ _)) w_X3_57 rfl (by decide) (Nat.le_of_ble_eq_true rfl) ⟨by decide, by decide⟩ dX3_object_29 (fun v M2 hv => ?_)
    obtain ⟨rfl, q1, q2, q3, ⟨f1, f2, f3⟩, ⟨n12, n13, n23⟩, mt, ⟨m1, m2, m3⟩, mo⟩ := hv
    obtain ⟨n1, f1⟩ := mput_none f1
    obtain ⟨n2, f2⟩ := mput_none f2
    obtain ⟨n3, f3⟩ := mput_none f3
    have hold : ∀ a, M a ≠ none → M2 a = M a := fun a h => by
      have e1 : a ≠ t := fun e => h (by rw [e]; exact ft)
      rw [mo a e1 (fun e => h (by rw [e]; exact f1)) (fun e => h (by rw [e]; exact f2)) (fun e => h (by rw [e]; exact f3)), mput_ne e1]
    have hx2 : M2 x = some (xE A σ) := (hold x (by rw [hx0]; exact Option.some_ne_none _)).trans hx0
    have ht2 : M2 (A 1 0) = some (.inl (ct 4, 200, .inr (.inr (.inr (.inr tf))))) := (hold _ (by rw [htf]; exact Option.some_ne_none _)).trans htf
    have nxT : x ≠ A 1 0 := ne_tag hG.1 (hG.2.1 1 (by decide) (by decide)) (by decide)
    refine VV.eqv (st' := [.ref t]) rfl rfl ?_
    refine V_astore_n C dX3_object_32 (by decide) ?_
    refine V_aload_n C dX3_object_33 (by rfl) ?_
    refine V_get C (ci := 3) hx2 rfl wu_X3 0 (by decide) fl_X3_11 rfl (by rfl) dX3_object_34 ?_
    refine V_aload_n C dX3_object_37 (by rfl) ?_
    refine V_get C (ci := 3) hx2 rfl wu_X3 1 (by decide) fl_X3_15 rfl (by rfl) dX3_object_38 ?_
    refine V_aload_n C dX3_object_41 (by rfl) ?_
    refine N_aastT C mt ht2 hlt (by decide) dX3_object_42 ?_
    refine V_aload_n C dX3_object_43 (by rfl) ?_
    refine V_dup C dX3_object_44 rfl ?_
    refine V_get C (ci := 3) ((mput_ne nxT).trans hx2) rfl wu_X3 1 (by decide) fl_X3_15 rfl (by rfl) dX3_object_45 ?_
    refine V_iconst C (1) dX3_object_48 (by decide) ?_
    refine V_iadd C dX3_object_49 ?_
    refine V_top (nI_1 _) ?_
    refine V_put C (ci := 3) ((mput_ne nxT).trans hx2) rfl wu_X3 1 (by decide) fl_X3_15 rfl tyX3 tyX3_ok nmX3 rfl (by rfl) (by rfl) (Nat.le_of_ble_eq_true rfl) dX3_object_50 ?_
    refine V_aload_n C dX3_object_53 (by rfl) ?_
    refine V_dup C dX3_object_54 rfl ?_
    refine V_get C (ci := 3) (mput_eq _ _ _) rfl wu_X3 2 (by decide) fl_X3_19 rfl (by rfl) dX3_object_55 ?_
    refine V_iconst C (1) dX3_object_58 (by decide) ?_
    refine V_iadd C dX3_object_59 ?_
    refine V_top (nI_1 _) ?_
    refine V_put C (ci := 3) (mput_eq _ _ _) rfl wu_X3 2 (by decide) fl_X3_19 rfl tyX3 tyX3_ok nmX3 rfl (by rfl) (by rfl) (Nat.le_of_ble_eq_true rfl) dX3_object_60 ?_
    refine V_aload_n C dX3_object_63 (by rfl) ?_
    refine V_get C (ci := 2) ((mput_ne nx.symm).trans ((mput_ne nx.symm).trans ((mput_ne nT.symm).trans mt))) rfl wu_X2 0 (by decide) fl_X3_60 rfl (by rfl) dX3_object_64 ?_
    exact V_iret C hr (by decide) (by decide) dX3_object_67 (by
      rw [show oObject σ g = (0, nI (gMade σ), sObj σ g) by unfold oObject; rw [if_neg (by omega)]; rfl]
      refine ⟨rfl, rfl, ?_⟩
      refine objectC hC hI hg ft f1 f2 f3 n1.symm n2.symm n3.symm n12 n13 n23 htf2 (fun a h1 h2 h3 => ?_) (mput_eq _ _ _) ?_ ?_ ?_ ?_ ?_
      · rw [mput_ne h2, mput_ne h2, mput_ne h3]; exact hold a h1
      · rw [mput_ne nxT.symm, mput_ne nxT.symm, mput_eq]
      · rw [mput_ne nx.symm, mput_ne nx.symm, mput_ne nT.symm]; exact mt
      · rw [mput_ne (some_ne hx0 f1).symm, mput_ne (some_ne hx0 f1).symm, mput_ne (some_ne htf f1).symm]; exact m1
      · rw [mput_ne (some_ne hx0 f2).symm, mput_ne (some_ne hx0 f2).symm, mput_ne (some_ne htf f2).symm]; exact m2
      · rw [mput_ne (some_ne hx0 f3).symm, mput_ne (some_ne hx0 f3).symm, mput_ne (some_ne htf f3).symm]; exact m3)
  · exact V_throw C hx rfl (E := "java/lang/UnsupportedOperationException") (by decide +kernel) cl_X3_50 ini_EU (List.mem_of_getElem? (i := 0) rfl) ea_U eg_U dX3_object_10 dX3_object_13 dX3_object_14 dX3_object_16 dX3_object_19 (by decide) (by decide) (by decide) (by decide) (by decide) (by decide) (by rw [show oObject σ g = (1, 0, σ) by unfold oObject; rw [if_pos (by rcases Nat.lt_or_ge (gAlive σ) 200 with h | h; exact absurd ((nI_ltI (by omega) (by decide)).mpr h) h7; omega)]]; exact ⟨Nat.zero_lt_succ _, rfl, rfl⟩)
