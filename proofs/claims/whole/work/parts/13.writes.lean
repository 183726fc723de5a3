/-! how the class's picture moves; state, bytes, push, pop -/
theorem arI.same {ct : Nat → ClassId} {M M' : Mem} {a N : Nat} {g : Nat → Int32} (h : arI ct M a N g) (e : M' a = M a) : arI ct M' a N g := by
  obtain ⟨f, h1, h2⟩ := h
  exact ⟨f, by rw [e]; exact h1, h2⟩
theorem arI.to {ct : Nat → ClassId} {M : Mem} {a N : Nat} {g g' : Nat → Int32} (h : arI ct M a N g) (e : ∀ j, j < N → g j = g' j) : arI ct M a N g' := by
  obtain ⟨f, h1, h2⟩ := h
  exact ⟨f, h1, fun j hj => (h2 j hj).trans (e j hj)⟩
theorem arI.new {ct : Nat → ClassId} {M : Mem} {a N : Nat} {f g : Nat → Int32} (e : ∀ j, j < N → f j = g j) : arI ct (mput M a (.inl (ct 0, N, .inl f))) a N g := ⟨f, mput_eq _ _ _, e⟩
theorem hasR_congr {σ σ' : Sg} {lo hi c : Nat} (h : ∀ r, lo ≤ r → r < hi → gPl σ' r = gPl σ r) : hasR σ' lo hi c = hasR σ lo hi c := by
  rw [Bool.eq_iff_iff, hasR_iff, hasR_iff]
  exact ⟨fun ⟨r, h1, h2, h3⟩ => ⟨r, h1, h2, by rw [← h r h1 h2]; exact h3⟩, fun ⟨r, h1, h2, h3⟩ => ⟨r, h1, h2, by rw [h r h1 h2]; exact h3⟩⟩
theorem ownr_congr {σ σ' : Sg} : ∀ (k : Nat) (c : Nat), (∀ j, j ≤ k → rbx σ' j = rbx σ j) → (∀ j r, j < k → rbx σ j ≤ r → r < rbx σ (j + 1) → gPl σ' r = gPl σ r) → (∀ j, j < k → gNum σ' j = gNum σ j) → ownr σ' k c = ownr σ k c := by
  intro k
  induction k with
  | zero => intro c _ _ _; rfl
  | succ k ih =>
    intro c h1 h2 h3
    simp only [ownr]
    rw [h1 k (by omega), h1 (k + 1) (by omega), hasR_congr (fun r g1 g2 => h2 k r (by omega) g1 g2), h3 k (by omega), ih c (fun j hj => h1 j (by omega)) (fun j r hj => h2 j r (by omega)) (fun j hj => h3 j (by omega))]
theorem RepT.mv {ct : Nat → ClassId} {A : Nat → Nat → Nat} {σ σ' : Sg} {M M' : Mem} {o : Nat} (h : RepT ct A σ M o) (m8 : M' (A 8 o) = M (A 8 o)) (m9 : M' (A 9 o) = M (A 9 o)) (m10 : M' (A 10 o) = M (A 10 o)) (m11 : M' (A 11 o) = M (A 11 o)) (eg : gGlob σ' o = gGlob σ o) (ec : ∀ i, i < 8 → gCe σ (8 * o + i) = gCe σ' (8 * o + i)) (eo : ∀ i, i < 8 → gOc σ (8 * o + i) = gOc σ' (8 * o + i)) (ew : ∀ i, i < 8 → ownr σ (gSv σ) (8 * o + i) = ownr σ' (gSv σ') (8 * o + i)) : RepT ct A σ' M' o := by
  obtain ⟨h1, h2, h3, h4⟩ := h
  refine ⟨?_, (h2.same m9).to ec, (h3.same m10).to eo, (h4.same m11).to (fun i hi => by rw [ew i hi])⟩
  rw [m8, h1]; unfold tE; rw [eg]
theorem RepS.mv {ct : Nat → ClassId} {A : Nat → Nat → Nat} {σ σ' : Sg} {M M' : Mem} {k : Nat} (h : RepS ct A σ M k) (m6 : M' (A 6 k) = M (A 6 k)) (m7 : M' (A 7 k) = M (A 7 k)) (ev : gSv σ' = gSv σ) (en : gNum σ' k = gNum σ k) (ef : gFst σ' k = gFst σ k) (es : gSb σ' k = gSb σ k) (eh : ∀ j, j < 8 → gHad σ (10 * k + j) = gHad σ' (10 * k + j)) (e0 : rbx σ' k = rbx σ k) (e1 : rbx σ' (k + 1) = rbx σ (k + 1)) : RepS ct A σ' M' k := by
  obtain ⟨h1, h2⟩ := h
  refine ⟨fun hk => ?_, fun hk => ?_⟩
  · obtain ⟨g1, g2⟩ := h1 (by rw [← ev]; exact hk)
    refine ⟨?_, (g2.same m7).to eh⟩
    rw [m6, g1, en, ef, es, e0, e1]
  · obtain ⟨n, f, p, g, q1, q2⟩ := h2 (by rw [← ev]; exact hk)
    exact ⟨n, f, p, g, by rw [m6]; exact q1, by rw [m7]; exact q2⟩
theorem RepR.mv {A : Nat → Nat → Nat} {σ σ' : Sg} {M M' : Mem} {k r : Nat} (h : RepR A σ M k r) (m : M' (A 12 r) = M (A 12 r)) (ep : gPl σ' r = gPl σ r) (ev : gVal σ' r = gVal σ r) (eo : ownr σ' k (gPl σ r) = ownr σ k (gPl σ r)) (e0 : rbx σ' k = rbx σ k) : RepR A σ' M' k r := by
  unfold RepR at h ⊢
  rw [m, h, ep, ev, eo, e0]
/-- the rows lie below gRows -/
theorem rbx_le {B : Nat} {σ : Sg} (hI : Inv B σ) (k : Nat) : rbx σ k ≤ gRows σ := by
  unfold rbx
  split
  · exact hI.2.2.2.1.1 k (by assumption)
  · exact Nat.le_refl _
theorem va_up_id {α : Type} (f : Nat → α) (k : Nat) : va_up f k (f k) = f := by
  funext j
  unfold va_up
  split
  · subst_vars; rfl
  · rfl
theorem sw_id (σ : Sg) (f : Nat) : sw σ f (σ.2 f) = σ := by
  refine Prod.ext rfl ?_
  funext f'
  show (if f' = f then σ.2 f else σ.2 f') = σ.2 f'
  split
  · subst_vars; rfl
  · rfl
theorem upd_up {f : Nat → Int32} {g : Nat → Int32} {N k : Nat} {v : Int32} (h : ∀ j, j < N → f j = g j) : ∀ j, j < N → upd f k v j = va_up g k v j := by
  intro j hj
  by_cases e : j = k
  · subst e; simp [upd, va_up]
  · rw [pk_un e, va_up_ne _ _ e]; exact h j hj
/-- only the addresses of one kind moved: the class's picture, but for the part that the caller gives -/
theorem FrC.of {G : Nat → Nat} {M M' : Mem} (h : ∀ a, G a = 0 → M' a = M a) : FrC G G M M' := ⟨fun _ h => Or.inl h, fun a h1 _ => h a h1⟩
theorem stateC {ct : Nat → ClassId} {A : Nat → Nat → Nat} {G ob : Nat → Nat} {σ : Sg} {M : Mem} {x B : Nat} (hC : RepC ct A G ob σ M x) (hI : Inv B σ) {f : Nat → Int32} (hf : M (A 3 0) = some (.inl (ct 0, 10, .inl f))) (hf2 : ∀ j, j < 10 → f j = σ.2 2 j) {j : Nat} {v : Int32} : RepC ct A G ob (sw σ 2 (va_up (σ.2 2) j v)) (mput M (A 3 0) (.inl (ct 0, 10, .inl (upd f j v)))) x := by
  obtain ⟨hx0, hG, hO, ⟨⟨tf, a1, a2⟩, ⟨s9, a3, a4⟩, a5, ⟨uf, a6, a7⟩, a8⟩, hT, hS, hR⟩ := hC
  have g3 : G (A 3 0) = 3 := hG.2.1 3 (by decide) (by decide)
  have hs : ∀ a, G a ≠ 3 → mput M (A 3 0) (.inl (ct 0, 10, .inl (upd f j v))) a = M a := fun a ha => mput_ne (fun e => ha (by rw [e]; exact g3))
  have ow : ∀ k c, ownr (sw σ 2 (va_up (σ.2 2) j v)) k c = ownr σ k c := fun k c => ownr_congr k c (fun _ _ => rfl) (fun _ _ _ _ _ => rfl) (fun _ _ => rfl)
  refine ⟨?_, hG, hO, ⟨⟨tf, ?_, a2⟩, ⟨s9, ?_, a4⟩, arI.new (upd_up hf2), ⟨uf, ?_, a7⟩, fun k hk => ?_⟩, fun o ho => ?_, fun k hk => ?_, fun k r h1 h2 h3 => ?_⟩
  · rw [hs x (by rw [hG.1]; decide)]; exact hx0
  · rw [hs _ (by rw [hG.2.1 1 (by decide) (by decide)]; decide)]; exact a1
  · rw [hs _ (by rw [hG.2.1 2 (by decide) (by decide)]; decide)]; exact a3
  · rw [hs _ (by rw [hG.2.1 4 (by decide) (by decide)]; decide)]; exact a6
  · obtain ⟨g, q1, q2⟩ := a8 k hk
    exact ⟨g, by rw [hs _ (by rw [hG.2.2.1 k hk]; omega)]; exact q1, q2⟩
  · have t := hG.2.2.2.2.1 o ho
    exact (hT o ho).mv (hs _ (by rw [t.1]; omega)) (hs _ (by rw [t.2.1]; omega)) (hs _ (by rw [t.2.2.1]; omega)) (hs _ (by rw [t.2.2.2]; omega)) rfl (fun _ _ => rfl) (fun _ _ => rfl) (fun i _ => (ow _ _).symm)
  · have t := hG.2.2.2.1 k hk
    exact (hS k hk).mv (hs _ (by rw [t.1]; omega)) (hs _ (by rw [t.2]; omega)) rfl rfl rfl rfl (fun _ _ => rfl) rfl rfl
  · exact (hR k r h1 h2 h3).mv (hs _ (by rw [hG.2.2.2.2.2 r (Nat.lt_of_lt_of_le h3 (rbx_le hI _))]; omega)) rfl rfl (ow _ _) rfl
set_option maxHeartbeats 4000000 in
set_option maxRecDepth 100000 in
theorem c_state (l : Launch) (hl : l.stackTraces = false) (base : Nat) (D : va_G) (ct : Nat → ClassId) (sa : Nat → Nat) {A : Nat → Nat → Nat} {G ob : Nat → Nat} {σ : Sg} {M : Mem} {x B : Nat} (hC : RepC ct A G ob σ M x) (hI : Inv B σ) (hB : B ≤ 600) (i v : Int32) :
    CT l yX3_state (.code yX3_state cX3_state 4 (some .int) :: WL) (rmK 7 2 12) base D ct sa M [.ref x, .int i, .int v] (PostC ct G M x (oState σ i v)) (PxC nmN M (oState σ i v)) := by
  refine CT.of hl (by decide) (Nat.le_of_ble_eq_true rfl) ?_
  intro p e s m below meth c C hr hx
  obtain ⟨hx0, hG, hO, hA, hT, hS, hR⟩ := id hC
  refine V_aload_n C dX3_state_0 (by rfl) ?_
  refine V_iload_n C dX3_state_1 (by rfl) ?_
  refine V_callV C hx (As := [.int v]) (c_checkValue l hl base D ct sa hC hI hB v) w_X3_67 hx0 rfl rfl (by decide) (by decide) ⟨by decide, by decide⟩ dX3_state_2 (by decide) (by decide) (fun E M1 h => by obtain ⟨h1, rfl, rfl⟩ := h; rw [show oState σ i v = (1, 0, σ) by simp [oState, h1]]; exact ⟨Nat.one_pos, rfl, rfl⟩) (fun v9 M1 hv => ?_)
  obtain ⟨hv, rfl, rfl⟩ := hv
  refine V_iload_n C dX3_state_5 (by rfl) ?_
  refine V_bipush C (nI 10) dX3_state_6 (by decide) ?_
  refine V_callS C hx (As := [.int i, .int (nI 10)]) (c_checkIndex l hl base D ct sa M1 i 10 (by decide)) w_X3_71 rfl (by decide) (by decide) ⟨by decide, by decide⟩ dX3_state_8 (by decide) (by decide) (fun E M2 h => by obtain ⟨h1, rfl, rfl⟩ := h; rw [show oState σ i v = (2, 0, σ) by simp [oState, hv, h1]]; exact ⟨Nat.zero_lt_succ _, rfl, rfl⟩) (fun v9 M2 hv2 => ?_)
  obtain ⟨hi, rfl, rfl⟩ := hv2
  obtain ⟨j, hj, rfl, ej⟩ := isN_of hi (by decide)
  obtain ⟨f, hf, hf2⟩ := hA.2.2.1
  refine V_aload_n C dX3_state_11 (by rfl) ?_
  refine V_get C (ci := 3) hx0 rfl wu_X3 7 (by decide) fl_X3_37 rfl (by rfl) dX3_state_12 ?_
  refine V_iload_n C dX3_state_15 (by rfl) ?_
  refine N_iald C hf hj (by decide) dX3_state_16 ?_
  refine V_istore_n C dX3_state_17 (by decide) ?_
  refine V_aload_n C dX3_state_18 (by rfl) ?_
  refine V_get C (ci := 3) hx0 rfl wu_X3 7 (by decide) fl_X3_37 rfl (by rfl) dX3_state_19 ?_
  refine V_iload_n C dX3_state_22 (by rfl) ?_
  refine V_iload_n C dX3_state_23 (by rfl) ?_
  refine N_iast C hf hj (by decide) dX3_state_24 ?_
  refine V_iload_n C dX3_state_25 (by rfl) ?_
  exact V_iret C hr (by decide) (by decide) dX3_state_26 (by rw [show oState σ (nI j) v = (0, gPa σ j, sw σ 2 (va_up (σ.2 2) j v)) by simp only [oState, hv, hi, ej]; rfl]; exact ⟨rfl, by rw [hf2 j hj], A, G, ob, stateC hC hI hf hf2, FrC.of (fun a ha => mput_ne (ne_tag ha (hG.2.1 3 (by decide) (by decide)) (by decide)))⟩)
theorem bytesC {ct : Nat → ClassId} {A : Nat → Nat → Nat} {G ob : Nat → Nat} {σ : Sg} {M : Mem} {x B : Nat} (hC : RepC ct A G ob σ M x) (hI : Inv B σ) {o : Nat} (ho : gThere σ o = 1) {f : Nat → Int32} (hf : M (A 10 o) = some (.inl (ct 0, 8, .inl f))) (hf2 : ∀ j, j < 8 → f j = gOc σ (8 * o + j)) {j : Nat} (hj : j < 8) {v : Int32} : RepC ct A G ob (sw σ 1 (va_up (σ.2 1) (8 * o + j) v)) (mput M (A 10 o) (.inl (ct 0, 8, .inl (upd f j v)))) x := by
  obtain ⟨hx0, hG, hO, ⟨⟨tf, a1, a2⟩, ⟨s9, a3, a4⟩, a5, ⟨uf, a6, a7⟩, a8⟩, hT, hS, hR⟩ := hC
  have g3 : G (A 10 o) = 16 * o + 10 := (hG.2.2.2.2.1 o ho).2.2.1
  have hs : ∀ a, G a ≠ 16 * o + 10 → mput M (A 10 o) (.inl (ct 0, 8, .inl (upd f j v))) a = M a := fun a ha => mput_ne (fun e => ha (by rw [e]; exact g3))
  have ow : ∀ k c, ownr (sw σ 1 (va_up (σ.2 1) (8 * o + j) v)) k c = ownr σ k c := fun k c => ownr_congr k c (fun _ _ => rfl) (fun _ _ _ _ _ => rfl) (fun _ _ => rfl)
  have ne : ∀ o' i, o' ≠ o → i < 8 → gOc σ (8 * o' + i) = va_up (σ.2 1) (8 * o + j) v (8 * o' + i) := fun o' i h hi => by rw [va_up_ne _ _ (by omega)]
  refine ⟨?_, hG, hO, ⟨⟨tf, ?_, a2⟩, ⟨s9, ?_, a4⟩, a5.same (hs _ (by rw [hG.2.1 3 (by decide) (by decide)]; omega)), ⟨uf, ?_, a7⟩, fun k hk => ?_⟩, fun o' ho' => ?_, fun k hk => ?_, fun k r h1 h2 h3 => ?_⟩
  · rw [hs x (by rw [hG.1]; omega)]; exact hx0
  · rw [hs _ (by rw [hG.2.1 1 (by decide) (by decide)]; omega)]; exact a1
  · rw [hs _ (by rw [hG.2.1 2 (by decide) (by decide)]; omega)]; exact a3
  · rw [hs _ (by rw [hG.2.1 4 (by decide) (by decide)]; omega)]; exact a6
  · obtain ⟨g, q1, q2⟩ := a8 k hk
    exact ⟨g, by rw [hs _ (by rw [hG.2.2.1 k hk]; omega)]; exact q1, q2⟩
  · have t := hG.2.2.2.2.1 o' ho'
    by_cases e : o' = o
    · subst e
      obtain ⟨q1, q2, q3, q4⟩ := hT o' ho'
      refine ⟨by rw [hs _ (by rw [t.1]; omega)]; exact q1, q2.same (hs _ (by rw [t.2.1]; omega)), arI.new (fun i hi => ?_), (q4.same (hs _ (by rw [t.2.2.2]; omega))).to (fun i _ => by rw [ow]; rfl)⟩
      show upd f j v i = va_up (σ.2 1) (8 * o' + j) v (8 * o' + i)
      by_cases e2 : i = j
      · subst e2; rw [va_up_self, pk_us]
      · rw [pk_un e2, va_up_ne _ _ (by omega)]; exact hf2 i hi
    · exact (hT o' ho').mv (hs _ (by rw [t.1]; omega)) (hs _ (by rw [t.2.1]; omega)) (hs _ (by rw [t.2.2.1]; omega)) (hs _ (by rw [t.2.2.2]; omega)) rfl (fun _ _ => rfl) (fun i hi => ne o' i e hi) (fun i _ => (ow _ _).symm)
  · have t := hG.2.2.2.1 k hk
    exact (hS k hk).mv (hs _ (by rw [t.1]; omega)) (hs _ (by rw [t.2]; omega)) rfl rfl rfl rfl (fun _ _ => rfl) rfl rfl
  · exact (hR k r h1 h2 h3).mv (hs _ (by rw [hG.2.2.2.2.2 r (Nat.lt_of_lt_of_le h3 (rbx_le hI _))]; omega)) rfl rfl (ow _ _) rfl
set_option maxHeartbeats 4000000 in
set_option maxRecDepth 100000 in
theorem c_bytes (l : Launch) (hl : l.stackTraces = false) (base : Nat) (D : va_G) (ct : Nat → ClassId) (sa : Nat → Nat) {A : Nat → Nat → Nat} {G ob : Nat → Nat} {σ : Sg} {M : Mem} {x B : Nat} (hC : RepC ct A G ob σ M x) (hI : Inv B σ) (hB : B ≤ 600) (k i v : Int32) :
    CT l yX3_bytes (.code yX3_bytes cX3_bytes 6 (some .int) :: WL) (rmK 7 3 18) base D ct sa M [.ref x, .int k, .int i, .int v] (PostC ct G M x (oBytes σ k i v)) (PxC nmN M (oBytes σ k i v)) := by
  refine CT.of hl (by decide) (Nat.le_of_ble_eq_true rfl) ?_
  intro p e s m below meth c C hr hx
  obtain ⟨hx0, hG, hO, hA, hT, hS, hR⟩ := id hC
  refine V_aload_n C dX3_bytes_0 (by rfl) ?_
  refine V_iload_n C dX3_bytes_1 (by rfl) ?_
  refine V_callV C hx (As := [.int k]) (c_existing l hl base D ct sa hC hI hB k) w_X3_63 hx0 rfl rfl (by decide) (by decide) ⟨by decide, by decide⟩ dX3_bytes_2 (by decide) (by decide) (fun E M1 h => by obtain ⟨h1, rfl, rfl⟩ := h; rw [show oBytes σ k i v = (1, 0, σ) by simp [oBytes, h1]]; exact ⟨Nat.one_pos, rfl, rfl⟩) (fun v9 M1 hv => ?_)
  obtain ⟨hk, rfl, rfl⟩ := hv
  obtain ⟨o, rfl, ho, ht, eo⟩ := isO_of hk (Nat.le_trans hI.1.1 hB)
  rw [eo]
  refine V_astore C dX3_bytes_5 (by decide) ?_
  refine V_iload_n C dX3_bytes_7 (by rfl) ?_
  refine V_bipush C (nI 8) dX3_bytes_8 (by decide) ?_
  refine V_callS C hx (As := [.int i, .int (nI 8)]) (c_checkIndex l hl base D ct sa M1 i 8 (by decide)) w_X3_71 rfl (by decide) (by decide) ⟨by decide, by decide⟩ dX3_bytes_10 (by decide) (by decide) (fun E M2 h => by obtain ⟨h1, rfl, rfl⟩ := h; rw [show oBytes σ (nI o) i v = (2, 0, σ) by simp [oBytes, hk, h1]]; exact ⟨Nat.zero_lt_succ _, rfl, rfl⟩) (fun v9 M2 hv => ?_)
  obtain ⟨hi, rfl, rfl⟩ := hv
  obtain ⟨j, hj, rfl, ej⟩ := isN_of hi (by decide)
  obtain ⟨ht0, ht1, ⟨f, hf, hf2⟩, ht3⟩ := hT o ht
  refine V_iload_n C dX3_bytes_13 (by rfl) ?_
  refine V_iconst C (-1) dX3_bytes_14 (by decide) ?_
  refine V_icmp_lt C 25 dX3_bytes_15 (by decide) (fun h15 => ?_) (fun h15 => ?_)
  · exact V_throw C hx rfl (E := "java/lang/IndexOutOfBoundsException") (by decide +kernel) cl_X3_135 ini_EB (List.mem_of_getElem? (i := 7) rfl) ea_B eg_B dX3_bytes_25 dX3_bytes_28 dX3_bytes_29 dX3_bytes_31 dX3_bytes_34 (by decide) (by decide) (by decide) (by decide) (by decide) (by decide) (by rw [show oBytes σ (nI o) (nI j) v = (2, 0, σ) by simp only [oBytes, hk, hi]; rw [if_neg (by decide), if_pos (Or.inr (Or.inl h15))]]; exact ⟨Nat.zero_lt_succ _, rfl, rfl⟩)
  · refine V_iload_n C dX3_bytes_18 (by rfl) ?_
    refine V_sipush C (255) dX3_bytes_19 (by decide) ?_
    refine V_icmp_le C 35 dX3_bytes_22 (by decide) (fun h22 => ?_) (fun h22 => ?_)
    · have er : oBytes σ (nI o) (nI j) v = (0, gOc σ (8 * o + j), sw σ 1 (va_up (σ.2 1) (8 * o + j) (if 0 ≤ v then v else gOc σ (8 * o + j)))) := by
        simp only [oBytes, hk, hi, eo, ej]
        rw [if_neg (by decide), if_neg (by rintro (h | h | h); exact absurd h (by decide); exact h15 h; exact Int32.not_lt.mpr h22 h)]
      refine V_aload C dX3_bytes_35 (by rfl) ?_
      refine V_get C (ci := 2) ht0 rfl wu_X2 3 (by decide) fl_X3_140 rfl (by rfl) dX3_bytes_37 ?_
      refine V_iload_n C dX3_bytes_40 (by rfl) ?_
      refine N_iald C hf hj (by decide) dX3_bytes_41 ?_
      refine V_istore C dX3_bytes_42 (by decide) ?_
      refine V_iload_n C dX3_bytes_44 (by rfl) ?_
      refine V_iconst C (-1) dX3_bytes_45 (by decide) ?_
      refine V_icmp_eq C 57 dX3_bytes_46 (by decide) (fun h46 => ?_) (fun h46 => ?_)
      · refine V_iload C dX3_bytes_57 (by rfl) ?_
        exact V_iret C hr (by decide) (by decide) dX3_bytes_59 (by rw [er, if_neg (by rw [h46]; decide), va_up_id (σ.2 1), sw_id]; exact ⟨rfl, by rw [hf2 j hj], A, G, ob, hC, FrC.rfl⟩)
      · have hv0 : 0 ≤ v := by
          have e1 : (-1 : Int32) ≤ v := Int32.not_lt.mp h15
          rw [Int32.le_iff_toInt_le] at e1 ⊢
          have e2 : v.toInt ≠ (-1 : Int32).toInt := fun e => h46 (Int32.toInt_inj.mp e)
          have e3 : (-1 : Int32).toInt = -1 := by decide
          have e4 : (0 : Int32).toInt = 0 := by decide
          omega
        refine V_aload C dX3_bytes_49 (by rfl) ?_
        refine V_get C (ci := 2) ht0 rfl wu_X2 3 (by decide) fl_X3_140 rfl (by rfl) dX3_bytes_51 ?_
        refine V_iload_n C dX3_bytes_54 (by rfl) ?_
        refine V_iload_n C dX3_bytes_55 (by rfl) ?_
        refine N_iast C hf hj (by decide) dX3_bytes_56 ?_
        refine V_iload C dX3_bytes_57 (by rfl) ?_
        exact V_iret C hr (by decide) (by decide) dX3_bytes_59 (by rw [er, if_pos hv0]; exact ⟨rfl, by rw [hf2 j hj], A, G, ob, bytesC hC hI ht hf hf2 hj, FrC.of (fun a ha => mput_ne (ne_tag ha (hG.2.2.2.2.1 o ht).2.2.1 (by omega)))⟩)
    · exact V_throw C hx rfl (E := "java/lang/IndexOutOfBoundsException") (by decide +kernel) cl_X3_135 ini_EB (List.mem_of_getElem? (i := 7) rfl) ea_B eg_B dX3_bytes_25 dX3_bytes_28 dX3_bytes_29 dX3_bytes_31 dX3_bytes_34 (by decide) (by decide) (by decide) (by decide) (by decide) (by decide) (by rw [show oBytes σ (nI o) (nI j) v = (2, 0, σ) by simp only [oBytes, hk, hi]; rw [if_neg (by decide), if_pos (Or.inr (Or.inr (Int32.not_le.mp h22)))]]; exact ⟨Nat.zero_lt_succ _, rfl, rfl⟩)
theorem cpy_at {f g : Nat → Int32} {j n sp dp : Nat} (h : j < n) : va_cpy f g sp dp n (dp + j) = f (sp + j) := by
  rw [pk_cpy_in (by omega) (by omega)]; congr 1; omega
theorem pushC {ct : Nat → ClassId} {A : Nat → Nat → Nat} {G ob : Nat → Nat} {σ : Sg} {M : Mem} {x B : Nat} (hC : RepC ct A G ob σ M x) (hI : Inv B σ) (hlt : gSt σ < 30) {f g : Nat → Int32} (hf2 : ∀ j, j < 10 → f j = σ.2 2 j) :
    RepC ct A G ob (sf (sw σ 5 (va_cpy (σ.2 2) (σ.2 5) 0 (8 * gSt σ) 8)) 13 (sk (gSt σ + 1))) (mput (mput M (A 5 (gSt σ)) (.inl (ct 0, 8, .inl (va_cpy f g 0 0 8)))) x (xE A (sf (sw σ 5 (va_cpy (σ.2 2) (σ.2 5) 0 (8 * gSt σ) 8)) 13 (sk (gSt σ + 1))))) x := by
  obtain ⟨hx0, hG, hO, ⟨⟨tf, a1, a2⟩, ⟨s9, a3, a4⟩, a5, ⟨uf, a6, a7⟩, a8⟩, hT, hS, hR⟩ := hC
  generalize hσ' : sf (sw σ 5 (va_cpy (σ.2 2) (σ.2 5) 0 (8 * gSt σ) 8)) 13 (sk (gSt σ + 1)) = σ'
  generalize hM' : mput (mput M (A 5 (gSt σ)) (.inl (ct 0, 8, .inl (va_cpy f g 0 0 8)))) x (xE A σ') = M'
  have g3 : G (A 5 (gSt σ)) = 16 * gSt σ + 5 := hG.2.2.1 _ hlt
  have hs : ∀ a, G a ≠ 13 → G a ≠ 16 * gSt σ + 5 → M' a = M a := fun a h1 h2 => by
    rw [← hM', mput_ne (fun e => h1 (by rw [e]; exact hG.1)), mput_ne (fun e => h2 (by rw [e]; exact g3))]
  have e1 : ∀ q, q ≠ 13 → σ'.1 q = σ.1 q := fun q hq => by rw [← hσ', sf_1, if_neg hq]; rfl
  have e2 : ∀ q, q ≠ 5 → σ'.2 q = σ.2 q := fun q hq => by rw [← hσ', sf_2, sw_2, if_neg hq]
  have e5 : σ'.2 5 = va_cpy (σ.2 2) (σ.2 5) 0 (8 * gSt σ) 8 := by rw [← hσ']; rfl
  have e13 : gSt σ' = gSt σ + 1 := by rw [← hσ']; rfl
  have rb : ∀ k, rbx σ' k = rbx σ k := fun k => by unfold rbx gSv gRb gRows; rw [e1 4 (by decide), e1 9 (by decide), e1 11 (by decide)]
  have ow : ∀ k c, ownr σ' k c = ownr σ k c := fun k c => ownr_congr k c (fun j _ => rb j) (fun _ _ _ _ _ => by unfold gPl; rw [e1 12 (by decide)]) (fun _ _ => by unfold gNum; rw [e1 7 (by decide)])
  have t0 : ∀ o, gThere σ' o = gThere σ o := fun o => by unfold gThere; rw [e1 2 (by decide)]
  have v0 : gSv σ' = gSv σ := by unfold gSv; rw [e1 4 (by decide)]
  refine ⟨by rw [← hM', mput_eq], ?_, ?_, ⟨⟨tf, ?_, fun j hj => a2 j (by unfold gAlive at hj ⊢; rw [e1 1 (by decide)] at hj; exact hj)⟩, ⟨s9, ?_, a4⟩, ?_, ⟨uf, ?_, a7⟩, fun k hk => ?_⟩, fun o' ho' => ?_, fun k hk => ?_, fun k r h1 h2 h3 => ?_⟩
  · unfold RepG gThere gRows at hG ⊢; rw [e1 2 (by decide), e1 11 (by decide)]; exact hG
  · unfold RepO gAlive gMade gThere at hO ⊢; rw [e1 0 (by decide), e1 1 (by decide), e1 2 (by decide)]; exact hO
  · rw [hs _ (by rw [hG.2.1 1 (by decide) (by decide)]; decide) (by rw [hG.2.1 1 (by decide) (by decide)]; omega)]; exact a1
  · rw [hs _ (by rw [hG.2.1 2 (by decide) (by decide)]; decide) (by rw [hG.2.1 2 (by decide) (by decide)]; omega)]; exact a3
  · rw [e2 2 (by decide)]; exact a5.same (hs _ (by rw [hG.2.1 3 (by decide) (by decide)]; decide) (by rw [hG.2.1 3 (by decide) (by decide)]; omega))
  · rw [hs _ (by rw [hG.2.1 4 (by decide) (by decide)]; decide) (by rw [hG.2.1 4 (by decide) (by decide)]; omega)]; exact a6
  · by_cases e : k = gSt σ
    · subst e
      refine ⟨va_cpy f g 0 0 8, ?_, fun _ j hj => ?_⟩
      · rw [← hM', mput_ne (ne_tag g3 hG.1 (by omega)), mput_eq]
      · have q1 : va_cpy f g 0 0 8 j = f j := by have := cpy_at (f := f) (g := g) (sp := 0) (dp := 0) hj; simpa using this
        unfold gPu
        rw [q1, e5, cpy_at hj, hf2 j (by omega), Nat.zero_add]
    · obtain ⟨h9, q1, q2⟩ := a8 k hk
      refine ⟨h9, by rw [hs _ (by rw [hG.2.2.1 k hk]; omega) (by rw [hG.2.2.1 k hk]; omega)]; exact q1, fun h j hj => ?_⟩
      rw [q2 (by rw [e13] at h; omega) j hj]
      unfold gPu
      rw [e5, pk_cpy_out (by omega)]
  · rw [t0] at ho'
    have t := hG.2.2.2.2.1 o' ho'
    exact (hT o' ho').mv (hs _ (by rw [t.1]; omega) (by rw [t.1]; omega)) (hs _ (by rw [t.2.1]; omega) (by rw [t.2.1]; omega)) (hs _ (by rw [t.2.2.1]; omega) (by rw [t.2.2.1]; omega)) (hs _ (by rw [t.2.2.2]; omega) (by rw [t.2.2.2]; omega)) (by unfold gGlob; rw [e1 3 (by decide)]) (fun _ _ => by unfold gCe; rw [e2 0 (by decide)]) (fun i hi => by unfold gOc; rw [e2 1 (by decide)]) (fun i _ => by rw [ow, v0])
  · have t := hG.2.2.2.1 k hk
    exact (hS k hk).mv (hs _ (by rw [t.1]; omega) (by rw [t.1]; omega)) (hs _ (by rw [t.2]; omega) (by rw [t.2]; omega)) v0 (by unfold gNum; rw [e1 7 (by decide)]) (by unfold gFst; rw [e1 8 (by decide)]) (by unfold gSb; rw [e1 10 (by decide)]) (fun _ _ => by unfold gHad; rw [e2 3 (by decide)]) (rb _) (rb _)
  · rw [v0] at h1
    rw [rb] at h2 h3
    have t := hG.2.2.2.2.2 r (Nat.lt_of_lt_of_le h3 (rbx_le hI _))
    exact (hR k r h1 h2 h3).mv (hs _ (by rw [t]; omega) (by rw [t]; omega)) (by unfold gPl; rw [e1 12 (by decide)]) (by unfold gVal; rw [e2 4 (by decide)]) (ow _ _) (rb _)
theorem ownS_push {B : Nat} {σ : Sg} (hI : Inv B σ) : ownS (sf (sw σ 5 (va_cpy (σ.2 2) (σ.2 5) 0 (8 * gSt σ) 8)) 13 (sk (gSt σ + 1))) = ownS σ + 1 := by
  show (if gSv σ = 0 then gSt σ + 1 else gSt σ + 1 - gSb σ (gSv σ - 1)) = ownS σ + 1
  unfold ownS
  split
  · rfl
  · have := hI.2.2.2.1.2.2.1 (gSv σ - 1) (by omega); omega
set_option maxHeartbeats 4000000 in
set_option maxRecDepth 100000 in
theorem c_push (l : Launch) (hl : l.stackTraces = false) (base : Nat) (D : va_G) (ct : Nat → ClassId) (sa : Nat → Nat) {A : Nat → Nat → Nat} {G ob : Nat → Nat} {σ : Sg} {M : Mem} {x B : Nat} (hC : RepC ct A G ob σ M x) (hI : Inv B σ) (hB : B ≤ 600) :
    CT l yX3_push (.code yX3_push cX3_push 1 (some .int) :: WL) (rmK 7 3 18) base D ct sa M [.ref x] (PostC ct G M x (oPush σ)) (PxC nmU M (oPush σ)) := by
  refine CT.of hl (by decide) (Nat.le_of_ble_eq_true rfl) ?_
  intro p e s m below meth c C hr hx
  obtain ⟨hx0, hG, hO, hA, hT, hS, hR⟩ := id hC
  obtain ⟨⟨tf, a1, a2⟩, ⟨s9, a3, a4⟩, ⟨f, hf, hf2⟩, ⟨uf, a6, a7⟩, a8⟩ := hA
  obtain ⟨⟨i1, i2, i3, i4, i5, i6, i7, i8⟩, iT, iS, ⟨r1, r2, r3, r4, r5, r6⟩, -⟩ := id hI
  refine V_aload_n C dX3_push_0 (by rfl) ?_
  refine V_get C (ci := 3) hx0 rfl wu_X3 9 (by decide) fl_X3_46 rfl (by rfl) dX3_push_1 ?_
  refine V_bipush C (nI 30) dX3_push_4 (by decide) ?_
  refine V_icmp_lt C 19 dX3_push_6 (by decide) (fun h6 => ?_) (fun h6 => ?_)
  · have hlt : gSt σ < 30 := (nI_ltI (by omega) (by decide)).mp h6
    obtain ⟨g, hg, hg2⟩ := a8 (gSt σ) hlt
    have ne1 : A 5 (gSt σ) ≠ x := ne_tag (hG.2.2.1 _ hlt) hG.1 (by omega)
    refine V_aload_n C dX3_push_19 (by rfl) ?_
    refine V_get C (ci := 3) hx0 rfl wu_X3 7 (by decide) fl_X3_37 rfl (by rfl) dX3_push_20 ?_
    refine V_iconst C (nI 0) dX3_push_23 (by decide) ?_
    refine V_aload_n C dX3_push_24 (by rfl) ?_
    refine V_get C (ci := 3) hx0 rfl wu_X3 8 (by decide) fl_X3_43 rfl (by rfl) dX3_push_25 ?_
    refine V_aload_n C dX3_push_28 (by rfl) ?_
    refine V_get C (ci := 3) hx0 rfl wu_X3 9 (by decide) fl_X3_46 rfl (by rfl) dX3_push_29 ?_
    refine N_aldU C a6 hlt (by decide) (a7 _ hlt) dX3_push_32 ?_
    refine V_iconst C (nI 0) dX3_push_33 (by decide) ?_
    refine V_bipush C (nI 8) dX3_push_34 (by decide) ?_
    refine N_copy C hf hg ml_X3_105 (by decide) (by decide) (by decide) (by decide) (by decide) (by decide) dX3_push_36 ?_
    refine V_aload_n C dX3_push_39 (by rfl) ?_
    refine V_dup C dX3_push_40 rfl ?_
    refine V_get C (ci := 3) ((mput_ne ne1.symm).trans hx0) rfl wu_X3 9 (by decide) fl_X3_46 rfl (by rfl) dX3_push_41 ?_
    refine V_iconst C (1) dX3_push_44 (by decide) ?_
    refine V_iadd C dX3_push_45 ?_
    refine V_top (nI_1 _) ?_
    refine V_put C (ci := 3) ((mput_ne ne1.symm).trans hx0) rfl wu_X3 9 (by decide) fl_X3_46 rfl tyX3 tyX3_ok nmX3 rfl (by rfl) (by rfl) (Nat.le_of_ble_eq_true rfl) dX3_push_46 ?_
    refine VV.eqv (M' := mput (mput M (A 5 (gSt σ)) (.inl (ct 0, 8, .inl (va_cpy f g 0 0 8)))) x (xE A (sf (sw σ 5 (va_cpy (σ.2 2) (σ.2 5) 0 (8 * gSt σ) 8)) 13 (sk (gSt σ + 1))))) rfl rfl ?_
    have hC2 := pushC hC hI hlt (f := f) (g := g) hf2
    have hs2 := fun h => ((hC2.2.2.2.2.2.1 (gSv σ - 1) (by omega)).1 h).1
    obtain ⟨b1, b2, b3, ⟨-, ⟨s8, b4, b5⟩, -⟩, -⟩ := id hC2
    refine V_aload_n C dX3_push_49 (by rfl) ?_
    refine V_callV C hx (As := []) (c_pushedSince l hl base D ct sa b1 i5 (by show gSt σ + 1 ≤ 30; omega) b4 b5 (fun h => hs2 (by show gSv σ - 1 < gSv σ; have : 0 < gSv σ := h; omega)) (fun h => by have := r3 (gSv σ - 1) (by have : 0 < gSv σ := h; omega); show gSb σ (gSv σ - 1) ≤ gSt σ + 1; omega)) w_X3_131 b1 rfl rfl (by decide) (by decide) ⟨by decide, by decide⟩ dX3_push_50 (by decide) (by decide) (fun _ _ h => h.elim) (fun v9 M1 hv => ?_)
    obtain ⟨rfl, rfl⟩ := hv
    refine VV.eqv (st' := [.int (nI (ownS σ + 1))]) rfl (by rw [ownS_push hI]; rfl) ?_
    exact V_iret C hr (by decide) (by decide) dX3_push_53 (by rw [show oPush σ = (0, nI (ownS σ + 1), _) by unfold oPush; rw [if_neg (by omega)]]; exact ⟨rfl, rfl, A, G, ob, hC2, FrC.of (fun a ha => by rw [mput_ne (ne_tag ha hG.1 (by decide)), mput_ne (ne_tag ha (hG.2.2.1 _ hlt) (by omega))])⟩)
  · exact V_throw C hx rfl (E := "java/lang/UnsupportedOperationException") (by decide +kernel) cl_X3_50 ini_EU (List.mem_of_getElem? (i := 6) rfl) ea_U eg_U dX3_push_9 dX3_push_12 dX3_push_13 dX3_push_15 dX3_push_18 (by decide) (by decide) (by decide) (by decide) (by decide) (by decide) (by rw [show oPush σ = (1, 0, σ) by unfold oPush; rw [if_pos (by rcases Nat.lt_or_ge (gSt σ) 30 with h | h; exact absurd ((nI_ltI (by omega) (by decide)).mpr h) h6; omega)]]; exact ⟨Nat.zero_lt_succ _, rfl, rfl⟩)
theorem popC {ct : Nat → ClassId} {A : Nat → Nat → Nat} {G ob : Nat → Nat} {σ : Sg} {M : Mem} {x B : Nat} (hC : RepC ct A G ob σ M x) (hI : Inv B σ) (hpos : 0 < gSt σ) {f g : Nat → Int32} (hf2 : ∀ j, j < 10 → f j = σ.2 2 j) (hg2 : ∀ j, j < 8 → g j = gPu σ (8 * (gSt σ - 1) + j)) :
    RepC ct A G ob (sw (sf σ 13 (sk (gSt σ - 1))) 2 (va_cpy (σ.2 5) (σ.2 2) (8 * (gSt σ - 1)) 0 8)) (mput (mput M x (xE A (sw (sf σ 13 (sk (gSt σ - 1))) 2 (va_cpy (σ.2 5) (σ.2 2) (8 * (gSt σ - 1)) 0 8)))) (A 3 0) (.inl (ct 0, 10, .inl (va_cpy g f 0 0 8)))) x := by
  obtain ⟨hx0, hG, hO, ⟨⟨tf, a1, a2⟩, ⟨s9, a3, a4⟩, a5, ⟨uf, a6, a7⟩, a8⟩, hT, hS, hR⟩ := hC
  generalize hσ' : sw (sf σ 13 (sk (gSt σ - 1))) 2 (va_cpy (σ.2 5) (σ.2 2) (8 * (gSt σ - 1)) 0 8) = σ'
  generalize hM' : mput (mput M x (xE A σ')) (A 3 0) (.inl (ct 0, 10, .inl (va_cpy g f 0 0 8))) = M'
  have g3 : G (A 3 0) = 3 := hG.2.1 3 (by decide) (by decide)
  have hs : ∀ a, G a ≠ 13 → G a ≠ 3 → M' a = M a := fun a h1 h2 => by
    rw [← hM', mput_ne (fun e => h2 (by rw [e]; exact g3)), mput_ne (fun e => h1 (by rw [e]; exact hG.1))]
  have e1 : ∀ q, q ≠ 13 → σ'.1 q = σ.1 q := fun q hq => by rw [← hσ', sw_1, sf_1, if_neg hq]
  have e2 : ∀ q, q ≠ 2 → σ'.2 q = σ.2 q := fun q hq => by rw [← hσ', sw_2, if_neg hq]; rfl
  have e5 : σ'.2 2 = va_cpy (σ.2 5) (σ.2 2) (8 * (gSt σ - 1)) 0 8 := by rw [← hσ']; rfl
  have e13 : gSt σ' = gSt σ - 1 := by rw [← hσ']; rfl
  have rb : ∀ k, rbx σ' k = rbx σ k := fun k => by unfold rbx gSv gRb gRows; rw [e1 4 (by decide), e1 9 (by decide), e1 11 (by decide)]
  have ow : ∀ k c, ownr σ' k c = ownr σ k c := fun k c => ownr_congr k c (fun j _ => rb j) (fun _ _ _ _ _ => by unfold gPl; rw [e1 12 (by decide)]) (fun _ _ => by unfold gNum; rw [e1 7 (by decide)])
  have t0 : ∀ o, gThere σ' o = gThere σ o := fun o => by unfold gThere; rw [e1 2 (by decide)]
  have v0 : gSv σ' = gSv σ := by unfold gSv; rw [e1 4 (by decide)]
  refine ⟨by rw [← hM', mput_ne (ne_tag hG.1 g3 (by decide)), mput_eq], ?_, ?_, ⟨⟨tf, ?_, fun j hj => a2 j (by unfold gAlive at hj ⊢; rw [e1 1 (by decide)] at hj; exact hj)⟩, ⟨s9, ?_, a4⟩, ?_, ⟨uf, ?_, a7⟩, fun k hk => ?_⟩, fun o' ho' => ?_, fun k hk => ?_, fun k r h1 h2 h3 => ?_⟩
  · unfold RepG gThere gRows at hG ⊢; rw [e1 2 (by decide), e1 11 (by decide)]; exact hG
  · unfold RepO gAlive gMade gThere at hO ⊢; rw [e1 0 (by decide), e1 1 (by decide), e1 2 (by decide)]; exact hO
  · rw [hs _ (by rw [hG.2.1 1 (by decide) (by decide)]; decide) (by rw [hG.2.1 1 (by decide) (by decide)]; omega)]; exact a1
  · rw [hs _ (by rw [hG.2.1 2 (by decide) (by decide)]; decide) (by rw [hG.2.1 2 (by decide) (by decide)]; omega)]; exact a3
  · refine ⟨va_cpy g f 0 0 8, by rw [← hM', mput_eq], fun j hj => ?_⟩
    rw [e5]
    rcases Nat.lt_or_ge j 8 with h | h
    · have q1 : va_cpy g f 0 0 8 j = g j := by have := cpy_at (f := g) (g := f) (sp := 0) (dp := 0) h; simpa using this
      have q2 : va_cpy (σ.2 5) (σ.2 2) (8 * (gSt σ - 1)) 0 8 j = σ.2 5 (8 * (gSt σ - 1) + j) := by have := cpy_at (f := σ.2 5) (g := σ.2 2) (sp := 8 * (gSt σ - 1)) (dp := 0) h; simpa using this
      rw [q1, q2]; exact hg2 j h
    · rw [pk_cpy_out (by omega), pk_cpy_out (by omega)]; exact hf2 j hj
  · rw [hs _ (by rw [hG.2.1 4 (by decide) (by decide)]; decide) (by rw [hG.2.1 4 (by decide) (by decide)]; omega)]; exact a6
  · obtain ⟨h9, q1, q2⟩ := a8 k hk
    refine ⟨h9, by rw [hs _ (by rw [hG.2.2.1 k hk]; omega) (by rw [hG.2.2.1 k hk]; omega)]; exact q1, fun h j hj => ?_⟩
    rw [q2 (by rw [e13] at h; omega) j hj]
    unfold gPu
    rw [e2 5 (by decide)]
  · rw [t0] at ho'
    have t := hG.2.2.2.2.1 o' ho'
    exact (hT o' ho').mv (hs _ (by rw [t.1]; omega) (by rw [t.1]; omega)) (hs _ (by rw [t.2.1]; omega) (by rw [t.2.1]; omega)) (hs _ (by rw [t.2.2.1]; omega) (by rw [t.2.2.1]; omega)) (hs _ (by rw [t.2.2.2]; omega) (by rw [t.2.2.2]; omega)) (by unfold gGlob; rw [e1 3 (by decide)]) (fun _ _ => by unfold gCe; rw [e2 0 (by decide)]) (fun i hi => by unfold gOc; rw [e2 1 (by decide)]) (fun i _ => by rw [ow, v0])
  · have t := hG.2.2.2.1 k hk
    exact (hS k hk).mv (hs _ (by rw [t.1]; omega) (by rw [t.1]; omega)) (hs _ (by rw [t.2]; omega) (by rw [t.2]; omega)) v0 (by unfold gNum; rw [e1 7 (by decide)]) (by unfold gFst; rw [e1 8 (by decide)]) (by unfold gSb; rw [e1 10 (by decide)]) (fun _ _ => by unfold gHad; rw [e2 3 (by decide)]) (rb _) (rb _)
  · rw [v0] at h1
    rw [rb] at h2 h3
    have t := hG.2.2.2.2.2 r (Nat.lt_of_lt_of_le h3 (rbx_le hI _))
    exact (hR k r h1 h2 h3).mv (hs _ (by rw [t]; omega) (by rw [t]; omega)) (by unfold gPl; rw [e1 12 (by decide)]) (by unfold gVal; rw [e2 4 (by decide)]) (ow _ _) (rb _)
theorem ownS_pop {B : Nat} {σ : Sg} (hI : Inv B σ) (hp : 0 < ownS σ) : ownS (sw (sf σ 13 (sk (gSt σ - 1))) 2 (va_cpy (σ.2 5) (σ.2 2) (8 * (gSt σ - 1)) 0 8)) = ownS σ - 1 ∧ (0 < gSv σ → gSb σ (gSv σ - 1) ≤ gSt σ - 1) := by
  refine ⟨?_, fun h => ?_⟩
  · show (if gSv σ = 0 then gSt σ - 1 else gSt σ - 1 - gSb σ (gSv σ - 1)) = ownS σ - 1
    unfold ownS
    split
    · rfl
    · omega
  · unfold ownS at hp
    rw [if_neg (by omega)] at hp
    omega
set_option maxHeartbeats 4000000 in
set_option maxRecDepth 100000 in
theorem c_pop (l : Launch) (hl : l.stackTraces = false) (base : Nat) (D : va_G) (ct : Nat → ClassId) (sa : Nat → Nat) {A : Nat → Nat → Nat} {G ob : Nat → Nat} {σ : Sg} {M : Mem} {x B : Nat} (hC : RepC ct A G ob σ M x) (hI : Inv B σ) (hB : B ≤ 600) :
    CT l yX3_pop (.code yX3_pop cX3_pop 1 (some .int) :: WL) (rmK 7 3 18) base D ct sa M [.ref x] (PostC ct G M x (0, oPop σ)) noX := by
  refine CT.of hl (by decide) (Nat.le_of_ble_eq_true rfl) ?_
  intro p e s m below meth c C hr hx
  obtain ⟨hx0, hG, hO, hA, hT, hS, hR⟩ := id hC
  obtain ⟨⟨tf, a1, a2⟩, ⟨s9, a3, a4⟩, ⟨f, hf, hf2⟩, ⟨uf, a6, a7⟩, a8⟩ := hA
  obtain ⟨⟨i1, i2, i3, i4, i5, i6, i7, i8⟩, iT, iS, ⟨r1, r2, r3, r4, r5, r6⟩, -⟩ := id hI
  refine V_aload_n C dX3_pop_0 (by rfl) ?_
  refine V_callV C hx (As := []) (c_pushedSince l hl base D ct sa hx0 i5 i6 a3 a4 (fun h => ((hS _ (by omega)).1 (by omega)).1) (fun h => r3 _ (by omega))) w_X3_131 hx0 rfl rfl (by decide) (by decide) ⟨by decide, by decide⟩ dX3_pop_1 (by decide) (by decide) (fun _ _ h => h.elim) (fun v9 M1 hv => ?_)
  obtain ⟨rfl, rfl⟩ := hv
  refine VV.eqv (st' := [.int (nI (ownS σ))]) rfl rfl ?_
  have hos : ownS σ ≤ gSt σ := by unfold ownS; split <;> omega
  refine V_if_gt C 9 dX3_pop_4 (by decide) (fun h4 => ?_) (fun h4 => ?_)
  · have hp : 0 < ownS σ := (nI_ltI (a := 0) (by decide) (by omega)).mp h4
    have hpos : 0 < gSt σ := by omega
    obtain ⟨g, hg, hg2⟩ := a8 (gSt σ - 1) (by omega)
    have ne1 : A 3 0 ≠ x := ne_tag (hG.2.1 3 (by decide) (by decide)) hG.1 (by decide)
    have ne2 : A 4 0 ≠ x := ne_tag (hG.2.1 4 (by decide) (by decide)) hG.1 (by decide)
    have ne3 : A 5 (gSt σ - 1) ≠ x := ne_tag (hG.2.2.1 _ (by omega)) hG.1 (by omega)
    refine V_aload_n C dX3_pop_9 (by rfl) ?_
    refine V_dup C dX3_pop_10 rfl ?_
    refine V_get C (ci := 3) hx0 rfl wu_X3 9 (by decide) fl_X3_46 rfl (by rfl) dX3_pop_11 ?_
    refine V_iconst C (1) dX3_pop_14 (by decide) ?_
    refine V_isub C dX3_pop_15 ?_
    refine V_top (y := nI (gSt σ - 1)) (pk_sub (b := 1) (by omega)) ?_
    refine V_put C (ci := 3) hx0 rfl wu_X3 9 (by decide) fl_X3_46 rfl tyX3 tyX3_ok nmX3 rfl (by rfl) (by rfl) (Nat.le_of_ble_eq_true rfl) dX3_pop_16 ?_
    refine VV.eqv (M' := mput M1 x (xE A (sw (sf σ 13 (sk (gSt σ - 1))) 2 (va_cpy (σ.2 5) (σ.2 2) (8 * (gSt σ - 1)) 0 8)))) rfl rfl ?_
    refine V_aload_n C dX3_pop_19 (by rfl) ?_
    refine V_get C (ci := 3) (mput_eq _ _ _) rfl wu_X3 8 (by decide) fl_X3_43 rfl (by rfl) dX3_pop_20 ?_
    refine V_aload_n C dX3_pop_23 (by rfl) ?_
    refine V_get C (ci := 3) (mput_eq _ _ _) rfl wu_X3 9 (by decide) fl_X3_46 rfl (by rfl) dX3_pop_24 ?_
    refine N_aldU C ((mput_ne ne2).trans a6) (show gSt σ - 1 < 30 by omega) (by decide) (a7 _ (show gSt σ - 1 < 30 by omega)) dX3_pop_27 ?_
    refine V_iconst C (nI 0) dX3_pop_28 (by decide) ?_
    refine V_aload_n C dX3_pop_29 (by rfl) ?_
    refine V_get C (ci := 3) (mput_eq _ _ _) rfl wu_X3 7 (by decide) fl_X3_37 rfl (by rfl) dX3_pop_30 ?_
    refine V_iconst C (nI 0) dX3_pop_33 (by decide) ?_
    refine V_bipush C (nI 8) dX3_pop_34 (by decide) ?_
    refine N_copy C ((mput_ne ne3).trans hg) ((mput_ne ne1).trans hf) ml_X3_105 (by decide) (by decide) (by decide) (by decide) (by decide) (by decide) dX3_pop_36 ?_
    have hC2 := popC hC hI hpos (f := f) (g := g) hf2 (hg2 (by omega))
    have hs2 := fun h => ((hC2.2.2.2.2.2.1 (gSv σ - 1) (by omega)).1 h).1
    obtain ⟨b1, b2, b3, ⟨-, ⟨s8, b4, b5⟩, -⟩, -⟩ := id hC2
    have hown := ownS_pop hI hp
    refine V_aload_n C dX3_pop_39 (by rfl) ?_
    refine V_callV C hx (As := []) (c_pushedSince l hl base D ct sa b1 i5 (by show gSt σ - 1 ≤ 30; omega) b4 b5 (fun h => hs2 (by show gSv σ - 1 < gSv σ; have : 0 < gSv σ := h; omega)) (fun h => hown.2 h)) w_X3_131 b1 rfl rfl (by decide) (by decide) ⟨by decide, by decide⟩ dX3_pop_40 (by decide) (by decide) (fun _ _ h => h.elim) (fun v9 M9 hv => ?_)
    obtain ⟨rfl, rfl⟩ := hv
    refine VV.eqv (st' := [.int (nI (ownS σ - 1))]) rfl (by rw [hown.1]; rfl) ?_
    exact V_iret C hr (by decide) (by decide) dX3_pop_43 (by rw [show oPop σ = (nI (ownS σ - 1), _) by unfold oPop; rw [if_neg (by omega)]]; exact ⟨rfl, rfl, A, G, ob, hC2, FrC.of (fun a ha => by rw [mput_ne (ne_tag ha (hG.2.1 3 (by decide) (by decide)) (by decide)), mput_ne (ne_tag ha hG.1 (by decide))])⟩)
  · refine V_iconst C (-1) dX3_pop_7 (by decide) ?_
    exact V_iret C hr (by decide) (by decide) dX3_pop_8 (by rw [show oPop σ = (-1, σ) by unfold oPop; rw [if_pos (by rcases Nat.eq_zero_or_pos (ownS σ) with h | h; exact h; exact absurd ((nI_ltI (a := 0) (by decide) (by omega)).mpr h) h4)]]; exact ⟨rfl, rfl, A, G, ob, hC, FrC.rfl⟩)
