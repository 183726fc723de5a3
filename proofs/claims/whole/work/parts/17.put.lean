/-! keepRow, put -/
theorem FrC.trans {G G' G'' : Nat → Nat} {M M1 M2 : Mem} (h1 : FrC G G' M M1) (h2 : FrC G' G'' M1 M2) : FrC G G'' M M2 := by
  obtain ⟨a1, a2⟩ := h1
  obtain ⟨b1, b2⟩ := h2
  refine ⟨fun a h => ?_, fun a h g => ?_⟩
  · by_cases hM : M a = none
    · exact Or.inr hM
    · by_cases hG : G a = 0
      · have e := a2 a hG hM
        rcases b1 a h with q | q
        · rcases a1 a q with q | q
          · exact absurd hG q
          · exact absurd q hM
        · rw [e] at q; exact absurd q hM
      · exact Or.inl hG
  · have e := a2 a h g
    have g' : G' a = 0 := by
      by_cases q : G' a = 0
      · exact q
      · rcases a1 a q with q | q
        · exact absurd h q
        · exact absurd q g
    rw [b2 a g' (by rw [e]; exact g), e]
theorem ownr_lt {B : Nat} {σ : Sg} (hI : Inv B σ) {c k : Nat} (hk : k < gSv σ) : ∀ j, j ≤ k → ownr σ j c < gNum σ k := by
  intro j
  induction j with
  | zero => intro _; have := (hI.2.2.1.1 k hk).1; exact this
  | succ j ih =>
    intro hj
    simp only [ownr]
    split
    · exact hI.2.2.1.2.1 j k (by omega) hk
    · exact ih (by omega)
theorem ownr_top {σ : Sg} {k c : Nat} (hk : gSv σ = k + 1) : ownr σ (gSv σ) c = if hasR σ (gRb σ k) (gRows σ) c then gNum σ k else ownr σ k c := by
  rw [hk]
  simp only [ownr]
  rw [show rbx σ k = gRb σ k by unfold rbx; rw [if_pos (by omega)], show rbx σ (k + 1) = gRows σ by unfold rbx; rw [if_neg (by omega)]]
set_option maxHeartbeats 4000000 in
theorem keepC {ct : Nat → ClassId} {A : Nat → Nat → Nat} {G ob : Nat → Nat} {σ : Sg} {M : Mem} {x B : Nat} (hC : RepC ct A G ob σ M x) (hI : Inv B σ) {o j k : Nat} (ho : gThere σ o = 1) (hj : j < 8) (hsv : gSv σ = k + 1) (hK : kept σ o (8 * o + j) = true) {q : Nat} (fq : M q = none) {w : Nat → Int32} (hw2 : ∀ i, i < 8 → w i = nI (ownr σ (gSv σ) (8 * o + i))) {M' : Mem} (hold : ∀ a, M a ≠ none → a ≠ A 6 k → a ≠ A 11 o → M' a = M a)
    (mq : M' q = some (.inr (0, [.ref (A 8 o), .int (nI j), .int (gCe σ (8 * o + j)), .int (nI (ownr σ (gSv σ) (8 * o + j))), va_rf (rowOf A (rbx σ k) (gRows σ))]))) (m6 : M' (A 6 k) = some (sE A σ k (nI (gNum σ k)) (nI (gFst σ k)) (nI (gSb σ k)) (some q) (nI (gRows σ - gRb σ k + 1)))) (m11 : M' (A 11 o) = some (.inl (ct 0, 8, .inl (upd w j (nI (gNum σ k)))))) :
    ∃ A' G', RepC ct A' G' ob (doKeep σ (8 * o + j)) M' x ∧ FrC G G' M M' ∧ A' 8 o = A 8 o := by
  obtain ⟨D1, D2, D3, D4, D5, D6⟩ := RepC.dom hC hI
  obtain ⟨hx0, hG, hO, ⟨⟨tf0, a1, a2⟩, ⟨s9, a3, a4⟩, a5, ⟨uf, a6, a7⟩, a8⟩, hT, hS, hR⟩ := hC
  obtain ⟨⟨k1, k2, k3⟩, k4⟩ := kept_iff.mp hK
  rw [show gSv σ - 1 = k by omega] at k3 k4
  obtain ⟨A', hAq, hAo, hAr⟩ : ∃ A' : Nat → Nat → Nat, A' 12 (gRows σ) = q ∧ (∀ r i, r ≠ 12 → A' r i = A r i) ∧ (∀ i, i ≠ gRows σ → A' 12 i = A 12 i) :=
    ⟨fun r i => if r = 12 then (if i = gRows σ then q else A r i) else A r i, by simp, fun r i h => by simp [h], fun i h => by simp [h]⟩
  obtain ⟨G', hGq, hGo⟩ : ∃ G' : Nat → Nat, G' q = 16 * gRows σ + 12 ∧ ∀ a, a ≠ q → G' a = G a := ⟨va_up G q (16 * gRows σ + 12), va_up_self _ _ _, fun a h => va_up_ne _ _ h⟩
  have hGd : ∀ a, M a ≠ none → G' a = G a := fun a h => hGo a (fun e => h (by rw [e]; exact fq))
  have g6 := (hG.2.2.2.1 k (by have := hI.1.2.2.2.2.1; omega)).1
  have g11 := (hG.2.2.2.2.1 o ho).2.2.2
  have mv : ∀ a, M a ≠ none → G a ≠ 16 * k + 6 → G a ≠ 16 * o + 11 → M' a = M a := fun a h1 h2 h3 => hold a h1 (fun e => h2 (by rw [e]; exact g6)) (fun e => h3 (by rw [e]; exact g11))
  have ev : gSv (doKeep σ (8 * o + j)) = gSv σ := rfl
  have ep : ∀ r, gPl (doKeep σ (8 * o + j)) r = va_up (σ.1 12) (gRows σ) (8 * o + j) r := fun _ => rfl
  have evl : ∀ r, gVal (doKeep σ (8 * o + j)) r = va_up (σ.2 4) (gRows σ) (gCe σ (8 * o + j)) r := fun _ => rfl
  have rle : ∀ k, rbx σ k ≤ gRows σ := rbx_le hI
  have rb0 : ∀ i, i ≤ k → rbx (doKeep σ (8 * o + j)) i = rbx σ i := fun i hi => by rw [rbx_keep, if_pos (by omega)]; unfold rbx; rw [if_pos (by omega)]
  have rbk : rbx σ k = gRb σ k := by unfold rbx; rw [if_pos (by omega)]
  have rbe : rbx σ (k + 1) = gRows σ := by unfold rbx; rw [if_neg (by omega)]
  have rbE : rbx (doKeep σ (8 * o + j)) (k + 1) = gRows σ + 1 := by rw [rbx_keep, if_neg (by omega)]
  have pls : ∀ r, r < gRows σ → gPl (doKeep σ (8 * o + j)) r = gPl σ r := fun r hr => by rw [ep, va_up_ne _ _ (by omega)]
  have owk : ∀ i c, i ≤ k → ownr (doKeep σ (8 * o + j)) i c = ownr σ i c := fun i c hi => ownr_congr i c (fun a ha => rb0 a (by omega)) (fun a r _ _ h => pls r (Nat.lt_of_lt_of_le h (rle _))) (fun _ _ => rfl)
  have owt : ∀ c, ownr (doKeep σ (8 * o + j)) (gSv σ) c = if c = 8 * o + j then gNum σ k else ownr σ (gSv σ) c := by
    intro c
    rw [ownr_top hsv]
    refine (ownr_top (σ := doKeep σ (8 * o + j)) (k := k) hsv).trans ?_
    show (if hasR (doKeep σ (8 * o + j)) (gRb σ k) (gRows σ + 1) c then gNum σ k else ownr (doKeep σ (8 * o + j)) k c) = _
    by_cases e : c = 8 * o + j
    · rw [if_pos e, if_pos]
      exact hasR_iff.mpr ⟨gRows σ, by rw [← rbk]; exact rle k, Nat.lt_succ_self _, by rw [ep, va_up_self, e]⟩
    · rw [if_neg e, owk k c (Nat.le_refl _)]
      have : hasR (doKeep σ (8 * o + j)) (gRb σ k) (gRows σ + 1) c = hasR σ (gRb σ k) (gRows σ) c := by
        rw [Bool.eq_iff_iff, hasR_iff, hasR_iff]
        constructor
        · rintro ⟨r, h1, h2, h3⟩
          by_cases e2 : r = gRows σ
          · subst e2; rw [ep, va_up_self] at h3; exact absurd h3.symm e
          · exact ⟨r, h1, by omega, by rw [pls r (by omega)] at h3; exact h3⟩
        · rintro ⟨r, h1, h2, h3⟩
          exact ⟨r, h1, by omega, by rw [pls r h2]; exact h3⟩
      rw [this]
  have br : ∀ lo hi, hi ≤ gRows σ → rowOf A' lo hi = rowOf A lo hi := fun lo hi h => by
    unfold rowOf
    split
    · rw [hAr _ (by omega)]
    · rfl
  refine ⟨A', G', ⟨?_, ?_, hO, ⟨⟨tf0, ?_, fun i hi => ?_⟩, ⟨s9, ?_, fun i hi => ?_⟩, ?_, ⟨uf, ?_, fun i hi => ?_⟩, fun i hi => ?_⟩, fun o' ho' => ?_, fun i hi => ?_, fun i r h1 h2 h3 => ?_⟩, ⟨?_, ?_⟩, hAo 8 o (by decide)⟩
  · rw [mv x D1 (by rw [hG.1]; omega) (by rw [hG.1]; omega), hx0]; unfold xE; rw [hAo 1 0 (by decide), hAo 2 0 (by decide), hAo 3 0 (by decide), hAo 4 0 (by decide)]; rfl
  · refine ⟨by rw [hGd x D1]; exact hG.1, fun i h1 h2 => ?_, fun i hi => ?_, fun i hi => ?_, fun o' ho' => ?_, fun r hr => ?_⟩
    · rw [hAo i 0 (by omega), hGd _ (D2 i h1 h2)]; exact hG.2.1 i h1 h2
    · rw [hAo 5 i (by decide), hGd _ (D3 i hi)]; exact hG.2.2.1 i hi
    · rw [hAo 6 i (by decide), hAo 7 i (by decide), hGd _ (D4 i hi).1, hGd _ (D4 i hi).2]; exact hG.2.2.2.1 i hi
    · obtain ⟨d1, d2, d3, d4⟩ := D5 o' ho'
      rw [hAo 8 o' (by decide), hAo 9 o' (by decide), hAo 10 o' (by decide), hAo 11 o' (by decide), hGd _ d1, hGd _ d2, hGd _ d3, hGd _ d4]
      exact hG.2.2.2.2.1 o' ho'
    · have hr' : r < gRows σ + 1 := hr
      by_cases e : r = gRows σ
      · subst e; rw [hAq]; exact hGq
      · rw [hAr r e, hGd _ (D6 r (by omega))]; exact hG.2.2.2.2.2 r (by omega)
  · rw [hAo 1 0 (by decide), mv _ (D2 1 (by decide) (by decide)) (by rw [hG.2.1 1 (by decide) (by decide)]; omega) (by rw [hG.2.1 1 (by decide) (by decide)]; omega)]; exact a1
  · rw [hAo 8 _ (by decide)]; exact a2 i hi
  · rw [hAo 2 0 (by decide), mv _ (D2 2 (by decide) (by decide)) (by rw [hG.2.1 2 (by decide) (by decide)]; omega) (by rw [hG.2.1 2 (by decide) (by decide)]; omega)]; exact a3
  · rw [hAo 6 i (by decide)]; exact a4 i hi
  · rw [hAo 3 0 (by decide)]; exact a5.same (mv _ (D2 3 (by decide) (by decide)) (by rw [hG.2.1 3 (by decide) (by decide)]; omega) (by rw [hG.2.1 3 (by decide) (by decide)]; omega))
  · rw [hAo 4 0 (by decide), mv _ (D2 4 (by decide) (by decide)) (by rw [hG.2.1 4 (by decide) (by decide)]; omega) (by rw [hG.2.1 4 (by decide) (by decide)]; omega)]; exact a6
  · rw [hAo 5 i (by decide)]; exact a7 i hi
  · rw [hAo 5 i (by decide), mv _ (D3 i hi) (by rw [hG.2.2.1 i hi]; omega) (by rw [hG.2.2.1 i hi]; omega)]; exact a8 i hi
  · obtain ⟨d1, d2, d3, d4⟩ := D5 o' ho'
    obtain ⟨g1, g2, g3, g4⟩ := hG.2.2.2.2.1 o' ho'
    obtain ⟨h1, h2, h3, h4⟩ := hT o' ho'
    have b8 := hAo 8 o' (by decide); have b9 := hAo 9 o' (by decide); have b10 := hAo 10 o' (by decide); have b11 := hAo 11 o' (by decide)
    refine ⟨?_, ?_, ?_, ?_⟩
    · rw [b8, mv _ d1 (by rw [g1]; omega) (by rw [g1]; omega), h1]; unfold tE; rw [b9, b10, b11]; rfl
    · rw [b9]; exact h2.same (mv _ d2 (by rw [g2]; omega) (by rw [g2]; omega))
    · rw [b10]; exact h3.same (mv _ d3 (by rw [g3]; omega) (by rw [g3]; omega))
    · rw [b11, ev]
      by_cases e : o' = o
      · subst e
        refine ⟨_, m11, fun i hi => ?_⟩
        show upd w j (nI (gNum σ k)) i = nI (ownr (doKeep σ (8 * o' + j)) (gSv σ) (8 * o' + i))
        rw [owt]
        by_cases e2 : i = j
        · subst e2; rw [if_pos rfl, pk_us]
        · rw [if_neg (by omega), pk_un e2]; exact hw2 i hi
      · exact (h4.same (mv _ d4 (by rw [g4]; omega) (by rw [g4]; omega))).to (fun i hi => by rw [owt, if_neg (by omega)])
  · obtain ⟨h1, h2⟩ := hS i hi
    obtain ⟨d1, d2⟩ := D4 i hi
    obtain ⟨g1, g2⟩ := hG.2.2.2.1 i hi
    have m7 := mv _ d2 (by rw [g2]; omega) (by rw [g2]; omega)
    have b6 := hAo 6 i (by decide); have b7 := hAo 7 i (by decide)
    by_cases e : i = k
    · subst e
      refine ⟨fun h => ⟨?_, ?_⟩, fun h => absurd h (by rw [ev]; omega)⟩
      · rw [b6, m6, rb0 i (Nat.le_refl _), rbE, rbk, show rowOf A' (gRb σ i) (gRows σ + 1) = some q by unfold rowOf; rw [if_pos (by have := rle i; rw [rbk] at this; omega), Nat.add_sub_cancel, hAq]]
        unfold sE
        rw [b7, show gRows σ + 1 - gRb σ i = gRows σ - gRb σ i + 1 by have := rle i; rw [rbk] at this; omega]
        rfl
      · rw [b7]; exact (h1 (by omega)).2.same m7
    · have m6' := mv _ d1 (by rw [g1]; omega) (by rw [g1]; omega)
      refine ⟨fun h => ?_, fun h => ?_⟩
      · have hi' : i < gSv σ := h
        obtain ⟨p1, p2⟩ := h1 hi'
        refine ⟨?_, ?_⟩
        · rw [b6, m6', p1, rb0 i (by omega), rb0 (i + 1) (by omega), br _ _ (rle _)]; unfold sE; rw [b7]; rfl
        · rw [b7]; exact p2.same m7
      · obtain ⟨n, f, p, g9, p1, p2⟩ := h2 h
        refine ⟨n, f, p, g9, ?_, ?_⟩
        · rw [b6, m6', p1]; unfold sE; rw [b7]
        · rw [b7, m7]; exact p2
  · have h1' : i < gSv σ := h1
    rw [rb0 i (by omega)] at h2
    by_cases e : r = gRows σ
    · subst e
      have ei : i = k := by
        rcases Nat.lt_or_ge i k with g | g
        · rw [rb0 (i + 1) (by omega)] at h3; have := rle (i + 1); omega
        · omega
      subst ei
      unfold RepR
      rw [hAq, mq, ep, va_up_self, evl, va_up_self, owk i _ (Nat.le_refl _), rb0 i (Nat.le_refl _), br _ _ (Nat.le_refl _), hAo 8 _ (by decide), show (8 * o + j) / 8 = o by omega, show (8 * o + j) % 8 = j by omega, ownr_top hsv, k4]
      rfl
    · have hr : r < gRows σ := by
        rcases Nat.lt_or_ge i k with g | g
        · rw [rb0 (i + 1) (by omega)] at h3; have := rle (i + 1); omega
        · rw [show i = k by omega, rbE] at h3; omega
      have h3' : r < rbx σ (i + 1) := by
        rcases Nat.lt_or_ge i k with g | g
        · rw [rb0 (i + 1) (by omega)] at h3; exact h3
        · rw [show i = k by omega, rbe]; exact hr
      have := hR i r h1' h2 h3'
      unfold RepR at this ⊢
      rw [hAr r e, mv _ (D6 r hr) (by rw [hG.2.2.2.2.2 r hr]; omega) (by rw [hG.2.2.2.2.2 r hr]; omega), this, pls r hr, evl, va_up_ne _ _ e, owk i _ (by omega), rb0 i (by omega), br _ _ (by omega), hAo 8 _ (by decide)]
  · intro a h
    by_cases hM : M a = none
    · exact Or.inr hM
    · rw [hGd a hM] at h; exact Or.inl h
  · intro a h1 h2
    exact mv a h2 (by rw [h1]; omega) (by rw [h1]; omega)
set_option maxHeartbeats 4000000 in
set_option maxRecDepth 100000 in
theorem c_keepRow (l : Launch) (hl : l.stackTraces = false) (base : Nat) (D : va_G) (ct : Nat → ClassId) (sa : Nat → Nat) {A : Nat → Nat → Nat} {G ob : Nat → Nat} {σ : Sg} {M : Mem} {x B : Nat} (hC : RepC ct A G ob σ M x) (hI : Inv B σ) (hB : B ≤ 600) {o j : Nat} (ho : gThere σ o = 1) (hj : j < 8) :
    CT l yX3_keepRow (.code yX3_keepRow cX3_keepRow 4 none :: WL) (rmK 2 1 5) base D ct sa M [.ref x, .ref (A 8 o), .int (nI j)] (fun v M' => v = none ∧ ∃ A' G', RepC ct A' G' ob (if kept σ o (8 * o + j) then doKeep σ (8 * o + j) else σ) M' x ∧ FrC G G' M M' ∧ A' 8 o = A 8 o) noX := by
  refine CT.of hl (by decide) (Nat.le_of_ble_eq_true rfl) ?_
  intro p e s m below meth c C hr hx
  obtain ⟨hx0, hG, hO, hA, hT, hS, hR⟩ := id hC
  obtain ⟨sf9, hsf, hsf2⟩ := hA.2.1
  obtain ⟨⟨i1, i2, i3, i4, i5, i6, i7, i8⟩, ⟨t1, t2, t3, t4⟩, ⟨m1, m2, m3, m4⟩, -⟩ := id hI
  obtain ⟨ht0, ⟨f, hf, hf2⟩, -, ⟨w, hw, hw2⟩⟩ := hT o ho
  have hom := t3 o ho
  have kfl : (¬ kept σ o (8 * o + j) = true) → kept σ o (8 * o + j) = false := fun h => by rw [Bool.not_eq_true] at h; exact h
  have g8 := hG.2.2.2.2.1 o ho
  rcases Nat.eq_zero_or_pos (gSv σ) with h0 | h0
  · have kf := kfl (fun h => absurd (kept_iff.mp h).1.1 (by omega))
    refine V_aload_n C dX3_keepRow_0 (by rfl) ?_
    refine V_get C (ci := 3) hx0 rfl wu_X3 4 (by decide) fl_X3_28 rfl (by rfl) dX3_keepRow_1 ?_
    refine V_if_le C 14 dX3_keepRow_4 (by decide) (fun h_4 => ?_) (fun h_4 => absurd h_4 (fun h => h (by rw [h0]; decide)))
    exact V_vret C hr (by decide) (by decide) dX3_keepRow_14 ⟨rfl, A, G, by rw [if_neg (by rw [kf]; decide)]; exact hC, FrC.rfl, rfl⟩
  · obtain ⟨k, hsv⟩ : ∃ k, gSv σ = k + 1 := ⟨gSv σ - 1, by omega⟩
    have hkk : gSv σ - 1 = k := by omega
    have hs6 := ((hS k (by omega)).1 (by omega)).1
    have g6 := hG.2.2.2.1 k (by omega)
    have hfm := m3 k (by omega)
    have hnm := (m1 k (by omega)).2
    have rbk : rbx σ k = gRb σ k := by unfold rbx; rw [if_pos (by omega)]
    have rbe : rbx σ (k + 1) = gRows σ := by unfold rbx; rw [if_neg (by omega)]
    by_cases hg : gGlob σ o = 1
    · have kf := kfl (fun h => by have := (kept_iff.mp h).1.2.1; omega)
      refine V_aload_n C dX3_keepRow_0 (by rfl) ?_
      refine V_get C (ci := 3) hx0 rfl wu_X3 4 (by decide) fl_X3_28 rfl (by rfl) dX3_keepRow_1 ?_
      refine V_if_le C 14 dX3_keepRow_4 (by decide) (fun h_4 => absurd h_4 (nI_nle (by omega) (by omega))) (fun h_4 => ?_)
      refine V_aload_n C dX3_keepRow_7 (by rfl) ?_
      refine V_get C (ci := 2) ht0 rfl wu_X2 1 (by decide) fl_X3_75 rfl (by rfl) dX3_keepRow_8 ?_
      refine V_if_eq C 15 dX3_keepRow_11 (by decide) (fun h_11 => absurd h_11 (by rw [hg]; decide)) (fun h_11 => ?_)
      exact V_vret C hr (by decide) (by decide) dX3_keepRow_14 ⟨rfl, A, G, by rw [if_neg (by rw [kf]; decide)]; exact hC, FrC.rfl, rfl⟩
    · have hg : gGlob σ o = 0 := by have := t2 o; omega
      by_cases hn : gFst σ k ≤ o
      · have kf := kfl (fun h => by have := (kept_iff.mp h).1.2.2; rw [hkk] at this; omega)
        refine V_aload_n C dX3_keepRow_0 (by rfl) ?_
        refine V_get C (ci := 3) hx0 rfl wu_X3 4 (by decide) fl_X3_28 rfl (by rfl) dX3_keepRow_1 ?_
        refine V_if_le C 14 dX3_keepRow_4 (by decide) (fun h_4 => absurd h_4 (nI_nle (by omega) (by omega))) (fun h_4 => ?_)
        refine V_aload_n C dX3_keepRow_7 (by rfl) ?_
        refine V_get C (ci := 2) ht0 rfl wu_X2 1 (by decide) fl_X3_75 rfl (by rfl) dX3_keepRow_8 ?_
        refine V_if_eq C 15 dX3_keepRow_11 (by decide) (fun h_11 => ?_) (fun h_11 => absurd h_11 (fun h => h (by rw [hg]; rfl)))
        refine V_aload_n C dX3_keepRow_15 (by rfl) ?_
        refine V_get C (ci := 3) hx0 rfl wu_X3 3 (by decide) fl_X3_24 rfl (by rfl) dX3_keepRow_16 ?_
        refine V_aload_n C dX3_keepRow_19 (by rfl) ?_
        refine V_get C (ci := 3) hx0 rfl wu_X3 4 (by decide) fl_X3_28 rfl (by rfl) dX3_keepRow_20 ?_
        refine V_iconst C (1) dX3_keepRow_23 (by decide) ?_
        refine V_isub C dX3_keepRow_24 ?_
        refine V_top (y := nI k) (by rw [hsv]; exact nI_pred k) ?_
        refine N_aldS C hsf (by omega) (by decide) (hsf2 k (by omega)) dX3_keepRow_25 ?_
        refine V_astore_n C dX3_keepRow_26 (by decide) ?_
        refine V_aload_n C dX3_keepRow_27 (by rfl) ?_
        refine V_aload_n C dX3_keepRow_28 (by rfl) ?_
        refine V_callV C hx (As := [.ref (A 6 k)]) (c_isNewerThan l hl base D ct sa (by omega) (by omega) ht0 hs6) w_X3_146 ht0 rfl rfl (by decide) (Nat.le_of_ble_eq_true rfl) ⟨by decide, by decide⟩ dX3_keepRow_29 (by decide) (by decide) (fun _ _ h => h.elim) (fun v M1 hv => ?_)
        obtain ⟨rfl, rfl⟩ := hv
        refine VV.eqv (st' := [.int (b2i (decide (gFst σ k ≤ o)))]) rfl rfl ?_
        refine V_if_ne C 48 dX3_keepRow_32 (by decide) (fun h_32 => ?_) (fun h_32 => absurd h_32 (fun h => by rw [decide_eq_true hn] at h; exact absurd h (by decide)))
        exact V_vret C hr (by decide) (by decide) dX3_keepRow_48 ⟨rfl, A, G, by rw [if_neg (by rw [kf]; decide)]; exact hC, FrC.rfl, rfl⟩
      · have hol : ownr σ k (8 * o + j) < gNum σ k := ownr_lt hI (by omega) k (Nat.le_refl _)
        have hle : ownr σ (gSv σ) (8 * o + j) ≤ gNum σ k := by rw [ownr_top hsv]; split <;> omega
        by_cases ho9 : ownr σ (gSv σ) (8 * o + j) = gNum σ k
        · have kf := kfl (fun h => by
            have h4 := (kept_iff.mp h).2
            rw [hkk] at h4
            rw [ownr_top hsv, h4] at ho9
            simp at ho9
            omega)
          refine V_aload_n C dX3_keepRow_0 (by rfl) ?_
          refine V_get C (ci := 3) hx0 rfl wu_X3 4 (by decide) fl_X3_28 rfl (by rfl) dX3_keepRow_1 ?_
          refine V_if_le C 14 dX3_keepRow_4 (by decide) (fun h_4 => absurd h_4 (nI_nle (by omega) (by omega))) (fun h_4 => ?_)
          refine V_aload_n C dX3_keepRow_7 (by rfl) ?_
          refine V_get C (ci := 2) ht0 rfl wu_X2 1 (by decide) fl_X3_75 rfl (by rfl) dX3_keepRow_8 ?_
          refine V_if_eq C 15 dX3_keepRow_11 (by decide) (fun h_11 => ?_) (fun h_11 => absurd h_11 (fun h => h (by rw [hg]; rfl)))
          refine V_aload_n C dX3_keepRow_15 (by rfl) ?_
          refine V_get C (ci := 3) hx0 rfl wu_X3 3 (by decide) fl_X3_24 rfl (by rfl) dX3_keepRow_16 ?_
          refine V_aload_n C dX3_keepRow_19 (by rfl) ?_
          refine V_get C (ci := 3) hx0 rfl wu_X3 4 (by decide) fl_X3_28 rfl (by rfl) dX3_keepRow_20 ?_
          refine V_iconst C (1) dX3_keepRow_23 (by decide) ?_
          refine V_isub C dX3_keepRow_24 ?_
          refine V_top (y := nI k) (by rw [hsv]; exact nI_pred k) ?_
          refine N_aldS C hsf (by omega) (by decide) (hsf2 k (by omega)) dX3_keepRow_25 ?_
          refine V_astore_n C dX3_keepRow_26 (by decide) ?_
          refine V_aload_n C dX3_keepRow_27 (by rfl) ?_
          refine V_aload_n C dX3_keepRow_28 (by rfl) ?_
          refine V_callV C hx (As := [.ref (A 6 k)]) (c_isNewerThan l hl base D ct sa (by omega) (by omega) ht0 hs6) w_X3_146 ht0 rfl rfl (by decide) (Nat.le_of_ble_eq_true rfl) ⟨by decide, by decide⟩ dX3_keepRow_29 (by decide) (by decide) (fun _ _ h => h.elim) (fun v M1 hv => ?_)
          obtain ⟨rfl, rfl⟩ := hv
          refine VV.eqv (st' := [.int (b2i (decide (gFst σ k ≤ o)))]) rfl rfl ?_
          refine V_if_ne C 48 dX3_keepRow_32 (by decide) (fun h_32 => absurd h_32 (by rw [decide_eq_false (by omega)]; exact fun h => h rfl)) (fun h_32 => ?_)
          refine V_aload_n C dX3_keepRow_35 (by rfl) ?_
          refine V_get C (ci := 2) ht0 rfl wu_X2 4 (by decide) fl_X3_167 rfl (by rfl) dX3_keepRow_36 ?_
          refine V_iload_n C dX3_keepRow_39 (by rfl) ?_
          refine N_iald C hw hj (by decide) dX3_keepRow_40 ?_
          refine V_aload_n C dX3_keepRow_41 (by rfl) ?_
          refine V_get C (ci := 1) hs6 rfl wu_X1 0 (by decide) fl_X3_97 rfl (by rfl) dX3_keepRow_42 ?_
          refine V_icmp_ne C 49 dX3_keepRow_45 (by decide) (fun h_45 => absurd h_45 (fun h => h ((hw2 j hj).trans (congrArg nI ho9)))) (fun h_45 => ?_)
          exact V_vret C hr (by decide) (by decide) dX3_keepRow_48 ⟨rfl, A, G, by rw [if_neg (by rw [kf]; decide)]; exact hC, FrC.rfl, rfl⟩
        · have kt : kept σ o (8 * o + j) = true := kept_iff.mpr ⟨⟨h0, hg, by rw [hkk]; omega⟩, by
            rw [hkk]
            cases h4 : hasR σ (gRb σ k) (gRows σ) (8 * o + j) with
            | false => rfl
            | true => rw [ownr_top hsv, h4] at ho9; exact absurd (if_pos rfl) ho9⟩
          refine V_aload_n C dX3_keepRow_0 (by rfl) ?_
          refine V_get C (ci := 3) hx0 rfl wu_X3 4 (by decide) fl_X3_28 rfl (by rfl) dX3_keepRow_1 ?_
          refine V_if_le C 14 dX3_keepRow_4 (by decide) (fun h_4 => absurd h_4 (nI_nle (by omega) (by omega))) (fun h_4 => ?_)
          refine V_aload_n C dX3_keepRow_7 (by rfl) ?_
          refine V_get C (ci := 2) ht0 rfl wu_X2 1 (by decide) fl_X3_75 rfl (by rfl) dX3_keepRow_8 ?_
          refine V_if_eq C 15 dX3_keepRow_11 (by decide) (fun h_11 => ?_) (fun h_11 => absurd h_11 (fun h => h (by rw [hg]; rfl)))
          refine V_aload_n C dX3_keepRow_15 (by rfl) ?_
          refine V_get C (ci := 3) hx0 rfl wu_X3 3 (by decide) fl_X3_24 rfl (by rfl) dX3_keepRow_16 ?_
          refine V_aload_n C dX3_keepRow_19 (by rfl) ?_
          refine V_get C (ci := 3) hx0 rfl wu_X3 4 (by decide) fl_X3_28 rfl (by rfl) dX3_keepRow_20 ?_
          refine V_iconst C (1) dX3_keepRow_23 (by decide) ?_
          refine V_isub C dX3_keepRow_24 ?_
          refine V_top (y := nI k) (by rw [hsv]; exact nI_pred k) ?_
          refine N_aldS C hsf (by omega) (by decide) (hsf2 k (by omega)) dX3_keepRow_25 ?_
          refine V_astore_n C dX3_keepRow_26 (by decide) ?_
          refine V_aload_n C dX3_keepRow_27 (by rfl) ?_
          refine V_aload_n C dX3_keepRow_28 (by rfl) ?_
          refine V_callV C hx (As := [.ref (A 6 k)]) (c_isNewerThan l hl base D ct sa (by omega) (by omega) ht0 hs6) w_X3_146 ht0 rfl rfl (by decide) (Nat.le_of_ble_eq_true rfl) ⟨by decide, by decide⟩ dX3_keepRow_29 (by decide) (by decide) (fun _ _ h => h.elim) (fun v M1 hv => ?_)
          obtain ⟨rfl, rfl⟩ := hv
          refine VV.eqv (st' := [.int (b2i (decide (gFst σ k ≤ o)))]) rfl rfl ?_
          refine V_if_ne C 48 dX3_keepRow_32 (by decide) (fun h_32 => absurd h_32 (by rw [decide_eq_false (by omega)]; exact fun h => h rfl)) (fun h_32 => ?_)
          refine V_aload_n C dX3_keepRow_35 (by rfl) ?_
          refine V_get C (ci := 2) ht0 rfl wu_X2 4 (by decide) fl_X3_167 rfl (by rfl) dX3_keepRow_36 ?_
          refine V_iload_n C dX3_keepRow_39 (by rfl) ?_
          refine N_iald C hw hj (by decide) dX3_keepRow_40 ?_
          refine V_aload_n C dX3_keepRow_41 (by rfl) ?_
          refine V_get C (ci := 1) hs6 rfl wu_X1 0 (by decide) fl_X3_97 rfl (by rfl) dX3_keepRow_42 ?_
          refine V_icmp_ne C 49 dX3_keepRow_45 (by decide) (fun h_45 => ?_) (fun h_45 => absurd h_45 (fun h => ho9 ((nI_eq (by omega) (by omega)).mp ((hw2 j hj).symm.trans h))))
          refine V_aload_n C dX3_keepRow_49 (by rfl) ?_
          refine V_new C (ci := 0) (fs := [.null, .int 0, .int 0, .int 0, .null]) rfl wu_X0 tyX0 tyX0_ok cl_X3_170 in_X0 ini_X0 (fun j hj => by rcases (show j = 0 ∨ j = 1 ∨ j = 2 ∨ j = 3 ∨ j = 4 by omega) with rfl | rfl | rfl | rfl | rfl <;> rfl) (by decide) (by decide) dX3_keepRow_50 (fun q fq => ?_)
          have n6 : A 6 k ≠ q := some_ne hs6 fq
          have n8 : A 8 o ≠ q := some_ne ht0 fq
          have n9 : A 9 o ≠ q := some_ne hf fq
          have n11 : A 11 o ≠ q := some_ne hw fq
          refine V_dup C dX3_keepRow_53 rfl ?_
          refine V_aload_n C dX3_keepRow_54 (by rfl) ?_
          refine V_iload_n C dX3_keepRow_55 (by rfl) ?_
          refine V_aload_n C dX3_keepRow_56 (by rfl) ?_
          refine V_get C (ci := 1) ((mput_ne n6).trans hs6) rfl wu_X1 4 (by decide) fl_X3_172 rfl (by rfl) dX3_keepRow_57 ?_
          refine V_callI C (As := [.ref (A 8 o), .int (nI j), va_rf (rowOf A (rbx σ k) (rbx σ (k + 1)))]) (c_RowInit l hl base D ct sa hj (mput_eq _ _ _) ((mput_ne n8).trans ht0) ((mput_ne n9).trans hf) ((mput_ne n11).trans hw)) w_X3_176 rfl (by decide) (Nat.le_of_ble_eq_true rfl) ⟨by decide, by decide⟩ dX3_keepRow_60 (fun v M2 hv => ?_)
          obtain ⟨rfl, mq, mo⟩ := hv
          refine VV.eqv (st' := [.ref q, .ref (A 6 k)]) rfl rfl ?_
          have h26 : M2 (A 6 k) = _ := (mo _ n6).trans ((mput_ne n6).trans hs6)
          have h28 : M2 (A 8 o) = _ := (mo _ n8).trans ((mput_ne n8).trans ht0)
          have h211 : M2 (A 11 o) = _ := (mo _ n11).trans ((mput_ne n11).trans hw)
          have n86 : A 8 o ≠ A 6 k := ne_tag g8.1 g6.1 (by omega)
          have n116 : A 11 o ≠ A 6 k := ne_tag g8.2.2.2 g6.1 (by omega)
          refine V_put C (ci := 1) h26 rfl wu_X1 4 (by decide) fl_X3_172 rfl tyX1 tyX1_ok nmX1 rfl (by rfl) (by rfl) (Nat.le_of_ble_eq_true rfl) dX3_keepRow_63 ?_
          refine V_aload_n C dX3_keepRow_66 (by rfl) ?_
          refine V_dup C dX3_keepRow_67 rfl ?_
          refine V_get C (ci := 1) (mput_eq _ _ _) rfl wu_X1 5 (by decide) fl_X3_143 rfl (by rfl) dX3_keepRow_68 ?_
          refine V_iconst C (1) dX3_keepRow_71 (by decide) ?_
          refine V_iadd C dX3_keepRow_72 ?_
          refine V_top (nI_1 _) ?_
          refine V_put C (ci := 1) (mput_eq _ _ _) rfl wu_X1 5 (by decide) fl_X3_143 rfl tyX1 tyX1_ok nmX1 rfl (by rfl) (by rfl) (Nat.le_of_ble_eq_true rfl) dX3_keepRow_73 ?_
          refine V_aload_n C dX3_keepRow_76 (by rfl) ?_
          refine V_get C (ci := 2) ((mput_ne n86).trans ((mput_ne n86).trans h28)) rfl wu_X2 4 (by decide) fl_X3_167 rfl (by rfl) dX3_keepRow_77 ?_
          refine V_iload_n C dX3_keepRow_80 (by rfl) ?_
          refine V_aload_n C dX3_keepRow_81 (by rfl) ?_
          refine V_get C (ci := 1) (mput_eq _ _ _) rfl wu_X1 0 (by decide) fl_X3_97 rfl (by rfl) dX3_keepRow_82 ?_
          refine N_iast C ((mput_ne n116).trans ((mput_ne n116).trans h211)) hj (by decide) dX3_keepRow_85 ?_
          exact V_vret C hr (by decide) (by decide) dX3_keepRow_86 (by
            refine ⟨rfl, ?_⟩
            rw [if_pos kt]
            refine keepC hC hI ho hj hsv kt fq hw2 (fun a h1 h2 h3 => ?_) ?_ ?_ (mput_eq _ _ _)
            · have e1 : a ≠ q := fun e => h1 (by rw [e]; exact fq)
              rw [mput_ne h3, mput_ne h2, mput_ne h2, mo a e1, mput_ne e1]
            · rw [mput_ne n11.symm, mput_ne n6.symm, mput_ne n6.symm, mq, hf2 j hj, hw2 j hj, rbe]
            · rw [mput_ne n116.symm, mput_eq, ← rbk, ← rbe]; rfl)
theorem cellsC {ct : Nat → ClassId} {A : Nat → Nat → Nat} {G ob : Nat → Nat} {σ : Sg} {M : Mem} {x B : Nat} (hC : RepC ct A G ob σ M x) (hI : Inv B σ) {o : Nat} (ho : gThere σ o = 1) {f : Nat → Int32} (hf : M (A 9 o) = some (.inl (ct 0, 8, .inl f))) (hf2 : ∀ j, j < 8 → f j = gCe σ (8 * o + j)) {j : Nat} (hj : j < 8) {v : Int32} : RepC ct A G ob (sw σ 0 (va_up (σ.2 0) (8 * o + j) v)) (mput M (A 9 o) (.inl (ct 0, 8, .inl (upd f j v)))) x := by
  obtain ⟨hx0, hG, hO, ⟨⟨tf, a1, a2⟩, ⟨s9, a3, a4⟩, a5, ⟨uf, a6, a7⟩, a8⟩, hT, hS, hR⟩ := hC
  have g3 : G (A 9 o) = 16 * o + 9 := (hG.2.2.2.2.1 o ho).2.1
  have hs : ∀ a, G a ≠ 16 * o + 9 → mput M (A 9 o) (.inl (ct 0, 8, .inl (upd f j v))) a = M a := fun a ha => mput_ne (fun e => ha (by rw [e]; exact g3))
  have ow : ∀ k c, ownr (sw σ 0 (va_up (σ.2 0) (8 * o + j) v)) k c = ownr σ k c := fun k c => ownr_congr k c (fun _ _ => rfl) (fun _ _ _ _ _ => rfl) (fun _ _ => rfl)
  have ne : ∀ o' i, o' ≠ o → i < 8 → gCe σ (8 * o' + i) = va_up (σ.2 0) (8 * o + j) v (8 * o' + i) := fun o' i h hi => by rw [va_up_ne _ _ (by omega)]
  refine ⟨?_, hG, hO, ⟨⟨tf, ?_, a2⟩, ⟨s9, ?_, a4⟩, a5.same (hs _ (by rw [hG.2.1 3 (by decide) (by decide)]; omega)), ⟨uf, ?_, a7⟩, fun k hk => ?_⟩, fun o' ho' => ?_, fun k hk => ?_, fun k r h1 h2 h3 => ?_⟩
  · rw [hs x (by rw [hG.1]; omega)]; exact hx0
  · rw [hs _ (by rw [hG.2.1 1 (by decide) (by decide)]; omega)]; exact a1
  · rw [hs _ (by rw [hG.2.1 2 (by decide) (by decide)]; omega)]; exact a3
  · rw [hs _ (by rw [hG.2.1 4 (by decide) (by decide)]; omega)]; exact a6
  · obtain ⟨g, q1, q2⟩ := a8 k hk
    exact ⟨g, by rw [hs _ (by rw [hG.2.2.1 k hk]; omega)]; exact q1, q2⟩
  · have t := hG.2.2.2.2.1 o' ho'
    by_cases e : o' = o
    · subst e
      obtain ⟨q1, q2, q3, q4⟩ := hT o' ho'
      refine ⟨by rw [hs _ (by rw [t.1]; omega)]; exact q1, arI.new (fun i hi => ?_), q3.same (hs _ (by rw [t.2.2.1]; omega)), (q4.same (hs _ (by rw [t.2.2.2]; omega))).to (fun i _ => by rw [ow]; rfl)⟩
      show upd f j v i = va_up (σ.2 0) (8 * o' + j) v (8 * o' + i)
      by_cases e2 : i = j
      · subst e2; rw [va_up_self, pk_us]
      · rw [pk_un e2, va_up_ne _ _ (by omega)]; exact hf2 i hi
    · exact (hT o' ho').mv (hs _ (by rw [t.1]; omega)) (hs _ (by rw [t.2.1]; omega)) (hs _ (by rw [t.2.2.1]; omega)) (hs _ (by rw [t.2.2.2]; omega)) rfl (fun i hi => ne o' i e hi) (fun _ _ => rfl) (fun i _ => (ow _ _).symm)
  · have t := hG.2.2.2.1 k hk
    exact (hS k hk).mv (hs _ (by rw [t.1]; omega)) (hs _ (by rw [t.2]; omega)) rfl rfl rfl rfl (fun _ _ => rfl) rfl rfl
  · exact (hR k r h1 h2 h3).mv (hs _ (by rw [hG.2.2.2.2.2 r (Nat.lt_of_lt_of_le h3 (rbx_le hI _))]; omega)) rfl rfl (ow _ _) rfl
theorem cells_keep {σ : Sg} {c : Nat} {b : Bool} : (if b then doKeep σ c else σ).2 0 = σ.2 0 := by cases b <;> rfl
theorem there_keep {σ : Sg} {c o : Nat} {b : Bool} : gThere (if b then doKeep σ c else σ) o = gThere σ o := by cases b <;> rfl
set_option maxHeartbeats 4000000 in
set_option maxRecDepth 100000 in
theorem c_put (l : Launch) (hl : l.stackTraces = false) (base : Nat) (D : va_G) (ct : Nat → ClassId) (sa : Nat → Nat) {A : Nat → Nat → Nat} {G ob : Nat → Nat} {σ : Sg} {M : Mem} {x B : Nat} (hC : RepC ct A G ob σ M x) (hI : Inv B σ) (hB : B ≤ 600) (k i v : Int32) :
    CT l yX3_put (.code yX3_put cX3_put 6 (some .int) :: WL) (rmK 7 5 32) base D ct sa M [.ref x, .int k, .int i, .int v] (PostC ct G M x (oPut σ k i v)) (PxC nmN M (oPut σ k i v)) := by
  refine CT.of hl (by decide) (Nat.le_of_ble_eq_true rfl) ?_
  intro p e s m below meth c C hr hx
  obtain ⟨hx0, hG, hO, hA, hT, hS, hR⟩ := id hC
  refine V_aload_n C dX3_put_0 (by rfl) ?_
  refine V_iload_n C dX3_put_1 (by rfl) ?_
  refine V_callV C hx (As := [.int k]) (c_existing l hl base D ct sa hC hI hB k) w_X3_63 hx0 rfl rfl (by decide) (Nat.le_of_ble_eq_true rfl) ⟨by decide, by decide⟩ dX3_put_2 (by decide) (by decide) (fun E M1 h => by obtain ⟨h1, rfl, rfl⟩ := h; rw [show oPut σ k i v = (1, 0, σ) by simp [oPut, h1]]; exact ⟨Nat.one_pos, rfl, rfl⟩) (fun v9 M1 hv => ?_)
  obtain ⟨hk, rfl, rfl⟩ := hv
  obtain ⟨o, rfl, ho, ht, eo⟩ := isO_of hk (Nat.le_trans hI.1.1 hB)
  rw [eo]
  refine V_astore C dX3_put_5 (by decide) ?_
  refine V_aload_n C dX3_put_7 (by rfl) ?_
  refine V_iload_n C dX3_put_8 (by rfl) ?_
  refine V_callV C hx (As := [.int v]) (c_checkValue l hl base D ct sa hC hI hB v) w_X3_67 hx0 rfl rfl (by decide) (Nat.le_of_ble_eq_true rfl) ⟨by decide, by decide⟩ dX3_put_9 (by decide) (by decide) (fun E M2 h => by obtain ⟨h1, rfl, rfl⟩ := h; rw [show oPut σ (nI o) i v = (1, 0, σ) by simp [oPut, h1]]; exact ⟨Nat.one_pos, rfl, rfl⟩) (fun v9 M2 hv => ?_)
  obtain ⟨hvv, rfl, rfl⟩ := hv
  refine V_iload_n C dX3_put_12 (by rfl) ?_
  refine V_bipush C (nI 8) dX3_put_13 (by decide) ?_
  refine V_callS C hx (As := [.int i, .int (nI 8)]) (c_checkIndex l hl base D ct sa M2 i 8 (by decide)) w_X3_71 rfl (by decide) (Nat.le_of_ble_eq_true rfl) ⟨by decide, by decide⟩ dX3_put_15 (by decide) (by decide) (fun E M3 h => by obtain ⟨h1, rfl, rfl⟩ := h; rw [show oPut σ (nI o) i v = (2, 0, σ) by simp [oPut, hk, hvv, h1]]; exact ⟨Nat.zero_lt_succ _, rfl, rfl⟩) (fun v9 M3 hv => ?_)
  obtain ⟨hi, rfl, rfl⟩ := hv
  obtain ⟨j, hj, rfl, ej⟩ := isN_of hi (by decide)
  have ht0 := (hT o ht).1
  have fin : ¬ (gGlob σ o = 1 ∧ v < 0 ∧ gGlob σ (rfOf v) = 0) → VV p l e (rmK 7 5 32) s m ([.ref x, .int (nI o), .int (nI j), .int v] : List Value).toArray below meth c 6 base D (QB base D (PostC ct G M3 x (oPut σ (nI o) (nI j) v)) (PxC nmN M3 (oPut σ (nI o) (nI j) v)) below ([.ref x, .int (nI o), .int (nI j), .int v] : List Value).toArray s 5 32) M3 3 18 44 [(0, .ref x), (1, .int (nI o)), (2, .int (nI j)), (3, .int v), (4, .ref (A 8 o))] [] := by
    intro hne
    have er : oPut σ (nI o) (nI j) v = (0, gCe σ (8 * o + j), sw (if kept σ o (8 * o + j) then doKeep σ (8 * o + j) else σ) 0 (va_up (σ.2 0) (8 * o + j) v)) := by
      simp only [oPut, hk, hvv, hi, eo, ej]
      rw [if_neg (by decide), if_neg (by decide), if_neg hne]
    rw [er]
    refine V_aload_n C dX3_put_44 (by rfl) ?_
    refine V_aload C dX3_put_45 (by rfl) ?_
    refine V_iload_n C dX3_put_47 (by rfl) ?_
    refine V_callV C hx (As := [.ref (A 8 o), .int (nI j)]) (c_keepRow l hl base D ct sa hC hI hB ht hj) w_X3_88 hx0 rfl rfl (by decide) (Nat.le_of_ble_eq_true rfl) ⟨by decide, by decide⟩ dX3_put_48 (by decide) (by decide) (fun _ _ h => h.elim) (fun v9 M4 hv => ?_)
    obtain ⟨rfl, A', G', hC4, hF4, e8⟩ := hv
    refine VV.eqv (st' := []) rfl rfl ?_
    have hI4 : Inv (B + 1) (if kept σ o (8 * o + j) then doKeep σ (8 * o + j) else σ) := by
      cases hkp : kept σ o (8 * o + j) with
      | true => exact inv_keep hI ht hj hkp
      | false => exact hI.mono (Nat.le_succ B)
    have ht4 : gThere (if kept σ o (8 * o + j) then doKeep σ (8 * o + j) else σ) o = 1 := by rw [there_keep]; exact ht
    obtain ⟨hx4, hG4, hO4, hA4, hT4, hS4, hR4⟩ := id hC4
    obtain ⟨h40, ⟨f4, hf4, hf42⟩, -⟩ := hT4 o ht4
    rw [e8] at h40
    refine V_aload C dX3_put_51 (by rfl) ?_
    refine V_get C (ci := 2) h40 rfl wu_X2 2 (by decide) fl_X3_92 rfl (by rfl) dX3_put_53 ?_
    refine V_iload_n C dX3_put_56 (by rfl) ?_
    refine N_iald C hf4 hj (by decide) dX3_put_57 ?_
    refine V_istore C dX3_put_58 (by decide) ?_
    refine V_aload C dX3_put_60 (by rfl) ?_
    refine V_get C (ci := 2) h40 rfl wu_X2 2 (by decide) fl_X3_92 rfl (by rfl) dX3_put_62 ?_
    refine V_iload_n C dX3_put_65 (by rfl) ?_
    refine V_iload_n C dX3_put_66 (by rfl) ?_
    refine N_iast C hf4 hj (by decide) dX3_put_67 ?_
    refine V_iload C dX3_put_68 (by rfl) ?_
    exact V_iret C hr (by decide) (by decide) dX3_put_70 (by
      have := cellsC hC4 hI4 ht4 hf4 hf42 hj (v := v)
      rw [cells_keep] at this
      refine ⟨rfl, ?_, A', G', ob, this, hF4.trans (FrC.of (fun a ha => mput_ne (ne_tag ha (hG4.2.2.2.2.1 o ht4).2.1 (by omega))))⟩
      have e9 : f4 j = gCe σ (8 * o + j) := (hf42 j hj).trans (congrFun cells_keep _)
      rw [e9])
  refine V_aload C dX3_put_18 (by rfl) ?_
  refine V_get C (ci := 2) ht0 rfl wu_X2 1 (by decide) fl_X3_75 rfl (by rfl) dX3_put_20 ?_
  refine V_if_eq C 44 dX3_put_23 (by decide) (fun h23 => ?_) (fun h23 => ?_)
  · refine VV.loc [(0, .ref x), (1, .int (nI o)), (2, .int (nI j)), (3, .int v), (4, .ref (A 8 o))] ⟨rfl, rfl, rfl, rfl, rfl, trivial⟩ ?_
    exact fin (fun h => by rw [h.1] at h23; exact absurd h23 (by decide))
  · refine V_aload_n C dX3_put_26 (by rfl) ?_
    refine V_iload_n C dX3_put_27 (by rfl) ?_
    refine V_callV C hx (As := [.int v]) (c_refersToLocal l hl base D ct sa hC hI hB v hvv) w_X3_79 hx0 rfl rfl (by decide) (Nat.le_of_ble_eq_true rfl) ⟨by decide, by decide⟩ dX3_put_28 (by decide) (by decide) (fun _ _ h => h.elim) (fun v9 M4 hv => ?_)
    obtain ⟨rfl, rfl⟩ := hv
    refine VV.eqv (st' := [.int (b2i (lcl σ v))]) rfl rfl ?_
    refine V_if_eq C 44 dX3_put_31 (by decide) (fun h31 => ?_) (fun h31 => ?_)
    · refine VV.loc [(0, .ref x), (1, .int (nI o)), (2, .int (nI j)), (3, .int v), (4, .ref (A 8 o))] ⟨rfl, rfl, rfl, rfl, rfl, trivial⟩ ?_
      exact fin (fun h => by rw [show lcl σ v = true from decide_eq_true h.2] at h31; exact absurd h31 (by decide))
    · exact V_throw C hx rfl (E := "java/lang/IllegalStateException") (by decide +kernel) cl_X3_83 ini_ES (List.mem_of_getElem? (i := 4) rfl) ea_S eg_S dX3_put_34 dX3_put_37 dX3_put_38 dX3_put_40 dX3_put_43 (by decide) (by decide) (by decide) (by decide) (by decide) (by decide) (by
        have h1 : gGlob σ o = 1 := by
          have := hI.2.1.2.1 o
          rcases Nat.eq_zero_or_pos (gGlob σ o) with h | h
          · rw [h] at h23; exact absurd rfl h23
          · omega
        have h2 : lcl σ v = true := by
          cases h : lcl σ v with
          | true => rfl
          | false => rw [h] at h31; exact absurd rfl h31
        rw [show oPut σ (nI o) (nI j) v = (3, 0, σ) by simp only [oPut, hk, hvv, hi, eo]; rw [if_neg (by decide), if_neg (by decide), if_pos ⟨h1, of_decide_eq_true h2⟩]]
        exact ⟨Nat.zero_lt_succ _, rfl, rfl⟩)
