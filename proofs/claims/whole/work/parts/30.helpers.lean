/-! what a call makes of Inv; which exceptions; the law's own methods object, put .. old -/
theorem iv_object {K : Nat} {σ : Sg} (h : Inv K σ) (g : Int32) : Inv (K + 1) (oObject σ g).2.2 := by
  unfold oObject
  split
  · exact h.mono (Nat.le_succ _)
  · exact inv_object h (by have := h.1.2.2.2.1; omega) g
theorem iv_put {K : Nat} {σ : Sg} (h : Inv K σ) (hK : K < 600) (k i v : Int32) : Inv (K + 1) (oPut σ k i v).2.2 := by
  unfold oPut
  split
  · exact h.mono (Nat.le_succ _)
  rename_i h1
  split
  · exact h.mono (Nat.le_succ _)
  rename_i h2
  split
  · exact h.mono (Nat.le_succ _)
  have hk : isO σ k = true := by
    cases e : isO σ k
    · exact absurd (Or.inl e) h1
    · rfl
  have hi : isN 8 i = true := by
    cases e : isN 8 i
    · exact absurd e h2
    · rfl
  obtain ⟨a, rfl, ha, ht, ea⟩ := isO_of hk (by have := h.1.1; omega)
  obtain ⟨j, hj, rfl, ej⟩ := isN_of hi (by decide)
  rw [ea, ej]
  show Inv (K + 1) (sw (if kept σ a (8 * a + j) then doKeep σ (8 * a + j) else σ) 0 (va_up (σ.2 0) (8 * a + j) v))
  split
  · rename_i hkk
    exact inv_cells (inv_keep h ht hj hkk) ha hj
  · exact (inv_cells h ha hj).mono (Nat.le_succ _)
theorem iv_get {K : Nat} {σ : Sg} (h : Inv K σ) (k i : Int32) : Inv (K + 1) (oGet σ k i).2.2 := by
  unfold oGet
  split
  · exact h.mono (Nat.le_succ _)
  split <;> exact h.mono (Nat.le_succ _)
theorem iv_stateOf {K : Nat} {σ : Sg} (h : Inv K σ) (i : Int32) : Inv (K + 1) (oStateOf σ i).2.2 := by
  unfold oStateOf
  split <;> exact h.mono (Nat.le_succ _)
theorem iv_old {K : Nat} {σ : Sg} (h : Inv K σ) (i : Int32) : Inv (K + 1) (oOld σ i).2.2 := by
  unfold oOld
  split <;> exact h.mono (Nat.le_succ _)
theorem iv_save {K : Nat} {σ : Sg} (h : Inv K σ) : Inv (K + 1) (oSave σ).2.2 := by
  unfold oSave
  split
  · exact h.mono (Nat.le_succ _)
  · exact inv_save h (by have := h.1.2.2.2.2.1; omega)
theorem iv_state {K : Nat} {σ : Sg} (h : Inv K σ) (i v : Int32) : Inv (K + 1) (oState σ i v).2.2 := by
  unfold oState
  split
  · exact h.mono (Nat.le_succ _)
  rename_i h1
  split
  · exact h.mono (Nat.le_succ _)
  have hv : isV σ v = true := by
    cases e : isV σ v
    · exact absurd e h1
    · rfl
  exact inv_state h hv
theorem iv_bytes {K : Nat} {σ : Sg} (h : Inv K σ) (hK : K < 600) (k i v : Int32) : Inv (K + 1) (oBytes σ k i v).2.2 := by
  unfold oBytes
  split
  · exact h.mono (Nat.le_succ _)
  rename_i h1
  split
  · exact h.mono (Nat.le_succ _)
  rename_i h2
  have hk : isO σ k = true := by
    cases e : isO σ k
    · exact absurd e h1
    · rfl
  have hi : isN 8 i = true := by
    cases e : isN 8 i
    · exact absurd (Or.inl e) h2
    · rfl
  obtain ⟨a, rfl, ha, ht, ea⟩ := isO_of hk (by have := h.1.1; omega)
  obtain ⟨j, hj, rfl, ej⟩ := isN_of hi (by decide)
  rw [ea, ej]
  exact inv_bytes h ha hj
theorem iv_push {K : Nat} {σ : Sg} (h : Inv K σ) : Inv (K + 1) (oPush σ).2.2 := by
  unfold oPush
  split
  · exact h.mono (Nat.le_succ _)
  · exact inv_push h (by have := h.1.2.2.2.2.2.1; omega)
theorem iv_pop {K : Nat} {σ : Sg} (h : Inv K σ) : Inv (K + 1) (oPop σ).2 := by
  unfold oPop
  split
  · exact h.mono (Nat.le_succ _)
  · exact inv_pop h (by omega)
theorem iv_restore {K : Nat} {σ : Sg} (h : Inv K σ) (n : Int32) : Inv (K + 1) (oRestore σ n).2 := by
  unfold oRestore
  split
  · exact h.mono (Nat.le_succ _)
  split
  · exact h.mono (Nat.le_succ _)
  rename_i h2
  split
  · exact h.mono (Nat.le_succ _)
  split
  · exact h.mono (Nat.le_succ _)
  rename_i h4
  have hlv : isLv σ n = true := by
    cases e : isLv σ n
    · exact absurd e h2
    · rfl
  obtain ⟨k, hk, -⟩ := List.any_eq_true.mp hlv
  have hk9 := List.mem_range.mp hk
  refine inv_restore h (k := gSv σ - 1) (by omega) ?_ ?_
  · cases e : isNw σ (gPa σ 8) (gFst σ (gSv σ - 1))
    · rfl
    · exact absurd (Or.inl e) h4
  · cases e : isNw σ (gPa σ 9) (gFst σ (gSv σ - 1))
    · rfl
    · exact absurd (Or.inr e) h4
/-- one of the codes 1 .. -/
def er1 (r : Nat × Int32 × Sg) (σ : Sg) : Prop := 0 < r.1 → r.2.2 = σ ∧ r.1 = 1
def er2 (r : Nat × Int32 × Sg) (σ : Sg) : Prop := 0 < r.1 → r.2.2 = σ ∧ (r.1 = 1 ∨ r.1 = 2)
def er3 (r : Nat × Int32 × Sg) (σ : Sg) : Prop := 0 < r.1 → r.2.2 = σ ∧ (r.1 = 1 ∨ r.1 = 2 ∨ r.1 = 3)
theorem er_put (σ : Sg) (k i v : Int32) : er3 (oPut σ k i v) σ := by
  unfold er3 oPut
  split
  · intro _; exact ⟨rfl, Or.inl rfl⟩
  split
  · intro _; exact ⟨rfl, Or.inr (Or.inl rfl)⟩
  split
  · intro _; exact ⟨rfl, Or.inr (Or.inr rfl)⟩
  · intro h; exact absurd h (Nat.lt_irrefl 0)
theorem er_get (σ : Sg) (k i : Int32) : er2 (oGet σ k i) σ := by
  unfold er2 oGet
  split
  · intro _; exact ⟨rfl, Or.inl rfl⟩
  split
  · intro _; exact ⟨rfl, Or.inr rfl⟩
  · intro h; exact absurd h (Nat.lt_irrefl 0)
theorem er_state (σ : Sg) (k i : Int32) : er2 (oState σ k i) σ := by
  unfold er2 oState
  split
  · intro _; exact ⟨rfl, Or.inl rfl⟩
  split
  · intro _; exact ⟨rfl, Or.inr rfl⟩
  · intro h; exact absurd h (Nat.lt_irrefl 0)
theorem er_bytes (σ : Sg) (k i v : Int32) : er2 (oBytes σ k i v) σ := by
  unfold er2 oBytes
  split
  · intro _; exact ⟨rfl, Or.inl rfl⟩
  split
  · intro _; exact ⟨rfl, Or.inr rfl⟩
  · intro h; exact absurd h (Nat.lt_irrefl 0)
theorem er_object (σ : Sg) (g : Int32) : er1 (oObject σ g) σ := by
  unfold er1 oObject
  split
  · intro _; exact ⟨rfl, rfl⟩
  · intro h; exact absurd h (Nat.lt_irrefl 0)
theorem er_save (σ : Sg) : er1 (oSave σ ) σ := by
  unfold er1 oSave
  split
  · intro _; exact ⟨rfl, rfl⟩
  · intro h; exact absurd h (Nat.lt_irrefl 0)
theorem er_stateOf (σ : Sg) (i : Int32) : er1 (oStateOf σ i) σ := by
  unfold er1 oStateOf
  split
  · intro _; exact ⟨rfl, rfl⟩
  · intro h; exact absurd h (Nat.lt_irrefl 0)
theorem er_push (σ : Sg) : er1 (oPush σ ) σ := by
  unfold er1 oPush
  split
  · intro _; exact ⟨rfl, rfl⟩
  · intro h; exact absurd h (Nat.lt_irrefl 0)
theorem er_old (σ : Sg) (k : Int32) : er1 (oOld σ k) σ := by
  unfold er1 oOld
  split
  · intro _; exact ⟨rfl, rfl⟩
  · intro h; exact absurd h (Nat.lt_irrefl 0)
/-- what a helper leaves: the code, the class's picture, the answer in out[0] -/
def PostH (ct : Nat → ClassId) (G : Nat → Nat) (M : Mem) (x out : Nat) (r : Nat × Int32 × Sg) : Option Value → Mem → Prop := fun v M' =>
  v = some (.int (nI r.1)) ∧ (∃ A' G' ob', RepC ct A' G' ob' r.2.2 M' x ∧ (∀ a, G' a ≠ 0 → G a ≠ 0 ∨ M a = none)) ∧ (∀ a, a ≠ out → G a = 0 → M a ≠ none → M' a = M a) ∧ ∃ f, M' out = some (.inl (ct 2, 1, .inr (.inl f))) ∧ (r.1 = 0 → f 0 = r.2.1.toInt64)
theorem postH_err {ct : Nat → ClassId} {A : Nat → Nat → Nat} {G ob : Nat → Nat} {σ : Sg} {M : Mem} {x out : Nat} {r : Nat × Int32 × Sg} {f : Nat → Int64} (hC : RepC ct A G ob σ M x) (ho : M out = some (.inl (ct 2, 1, .inr (.inl f)))) (hp : 0 < r.1) (hs : r.2.2 = σ) {c : Int32} (hc : c = nI r.1) : PostH ct G M x out r (some (.int c)) M :=
  ⟨by rw [hc], ⟨A, G, ob, by rw [hs]; exact hC, fun _ h => Or.inl h⟩, fun _ _ _ _ => rfl, f, ho, fun h => absurd hp (by omega)⟩
theorem postH_out {ct : Nat → ClassId} {G : Nat → Nat} {M M1 : Mem} {x out : Nat} {r : Nat × Int32 × Sg} {v : Option Value} {f : Nat → Int64} (h : PostC ct G M x r v M1) (ho : M out = some (.inl (ct 2, 1, .inr (.inl f)))) (hg : G out = 0) : M1 out = some (.inl (ct 2, 1, .inr (.inl f))) := by
  obtain ⟨-, -, A', G', ob', -, hF⟩ := h
  rw [hF.2 out hg (by rw [ho]; exact fun h => by cases h)]
  exact ho
theorem postH_ok {ct : Nat → ClassId} {G : Nat → Nat} {M M1 : Mem} {x out K : Nat} {r : Nat × Int32 × Sg} {v : Option Value} {f : Nat → Int64} (h : PostC ct G M x r v M1) (hI : Inv K r.2.2) (ho : M out = some (.inl (ct 2, 1, .inr (.inl f)))) (hg : G out = 0) : PostH ct G M x out r (some (.int (nI 0))) (mput M1 out (.inl (ct 2, 1, .inr (.inl (vp_updL f 0 r.2.1.toInt64))))) := by
  obtain ⟨h0, -, A', G', ob', hC, hF⟩ := h
  have hn : M out ≠ none := by rw [ho]; exact fun h => by cases h
  have hg' : G' out = 0 := by
    rcases Nat.eq_zero_or_pos (G' out) with q | q
    · exact q
    · rcases hF.1 out (by omega) with w | w
      · exact absurd hg w
      · exact absurd w hn
  refine ⟨by rw [h0], ⟨A', G', ob', hC.same hI (fun a ha => mput_ne (fun e => ha (by rw [e]; exact hg'))), hF.1⟩, fun a h1 h2 h3 => ?_, _, mput_eq _ _ _, fun _ => pk_uLs⟩
  rw [mput_ne h1]; exact hF.2 a h2 h3
set_option maxHeartbeats 4000000 in
set_option maxRecDepth 100000 in
theorem h_object (l : Launch) (hl : l.stackTraces = false) (base : Nat) (D : va_G) (ct : Nat → ClassId) (sa : Nat → Nat) {A : Nat → Nat → Nat} {G ob : Nat → Nat} {σ : Sg} {M : Mem} {x B : Nat} (hC : RepC ct A G ob σ M x) (hI : Inv B σ) (hB : B ≤ 600) {K' out : Nat} {f : Nat → Int64} (ho : M out = some (.inl (ct 2, 1, .inr (.inl f)))) (hg : G out = 0) (g : Int32) (hg1 : g = 0 ∨ g = 1) (hI' : Inv K' (oObject σ g).2.2) :
    CT l yL_object (.codeWith yL_object cL_object 4 (some .int) [(0, 9, 12, 13)] :: WL) (rmK 8 4 30) base D ct sa M [.ref x, .int g, .ref out] (PostH ct G M x out (oObject σ g)) noX := by
  refine CT.ofH hl (by decide) (Nat.le_of_ble_eq_true rfl) ?_
  intro p e s m below meth c C hr ht
  refine V_aload_n C dL_object_0 (by rfl) ?_
  refine V_iconst C (nI 0) dL_object_1 (by decide) ?_
  refine V_aload_n C dL_object_2 (by rfl) ?_
  refine V_iload_n C dL_object_3 (by rfl) ?_
  refine V_callVx C (As := [.int g]) (c_object l hl base D ct sa hC hI hB g hg1) w_L_7 hC.1 rfl rfl (by decide) (Nat.le_of_ble_eq_true rfl) ⟨by decide, by decide⟩ dL_object_4 (fun ls hL E M9 ce q9 H1 locs1 h1 h2 h3 h4 h5 h6 => ?_) (fun v9 M1 hv => ?_)
  · obtain ⟨hp, rfl, rfl⟩ := h1
    obtain ⟨hs, e9⟩ := er_object σ g hp
    have hE : nmU (oObject σ g).1 = "java/lang/UnsupportedOperationException" := by rw [e9]; rfl
    rw [hE] at h6
    exact V_catch C ht [] (0, 9, 12, 13) [] rfl (E := "java/lang/UnsupportedOperationException") (fun z hz => by cases hz) ⟨by decide, by decide⟩ (by decide) cl_L_13 (List.mem_of_getElem? (i := 0) rfl) (fun q9 => by
      refine V_astore_n C dL_object_12 (by decide) ?_
      refine V_iconst C (nI 1) dL_object_13 (by decide) ?_
      exact V_iret C hr (by decide) (by decide) dL_object_14 (postH_err hC ho hp hs (by rw [e9]))) hL h2 h3 h4 h5 h6
  · have hm := postH_out hv ho hg
    have hf := postH_ok hv hI' ho hg
    obtain ⟨-, rfl, -⟩ := hv
    refine VV.eqv (st' := [.int (oObject σ g).2.1, .int (nI 0), .ref out]) rfl rfl ?_
    refine V_i2l C dL_object_7 ?_
    refine N_last C hm (by decide) (by decide) dL_object_8 ?_
    refine V_goto C 15 dL_object_9 (by decide) ?_
    refine V_iconst C (nI 0) dL_object_15 (by decide) ?_
    exact V_iret C hr (by decide) (by decide) dL_object_16 hf
theorem wh_object : WSH RL 53 yL_object cL_object 4 (some .int) [(0, 9, 12, 13)] 3 := ⟨⟨ml_L_53, st_L_object, ini_L, cw_L_object⟩, by decide +kernel, by decide +kernel, by decide +kernel⟩
set_option maxHeartbeats 4000000 in
set_option maxRecDepth 100000 in
theorem h_put (l : Launch) (hl : l.stackTraces = false) (base : Nat) (D : va_G) (ct : Nat → ClassId) (sa : Nat → Nat) {A : Nat → Nat → Nat} {G ob : Nat → Nat} {σ : Sg} {M : Mem} {x B : Nat} (hC : RepC ct A G ob σ M x) (hI : Inv B σ) (hB : B ≤ 600) {K' out : Nat} {f : Nat → Int64} (ho : M out = some (.inl (ct 2, 1, .inr (.inl f)))) (hg : G out = 0) (k i v : Int32) (hI' : Inv K' (oPut σ k i v).2.2) :
    CT l yL_put (.codeWith yL_put cL_put 6 (some .int) [(0, 12, 15, 19), (0, 12, 19, 21), (0, 12, 23, 23)] :: WL) (rmK 8 5 32) base D ct sa M [.ref x, .int k, .int i, .int v, .ref out] (PostH ct G M x out (oPut σ k i v)) noX := by
  refine CT.ofH hl (by decide) (Nat.le_of_ble_eq_true rfl) ?_
  intro p e s m below meth c C hr ht
  refine V_aload C dL_put_0 (by rfl) ?_
  refine V_iconst C (nI 0) dL_put_2 (by decide) ?_
  refine V_aload_n C dL_put_3 (by rfl) ?_
  refine V_iload_n C dL_put_4 (by rfl) ?_
  refine V_iload_n C dL_put_5 (by rfl) ?_
  refine V_iload_n C dL_put_6 (by rfl) ?_
  refine V_callVx C (As := [.int k, .int i, .int v]) (c_put l hl base D ct sa hC hI hB k i v) w_L_15 hC.1 rfl rfl (by decide) (Nat.le_of_ble_eq_true rfl) ⟨by decide, by decide⟩ dL_put_7 (fun ls hL E M9 ce q9 H1 locs1 h1 h2 h3 h4 h5 h6 => ?_) (fun v9 M1 hv => ?_)
  · obtain ⟨hp, rfl, rfl⟩ := h1
    obtain ⟨hs, e9⟩ := er_put σ k i v hp
    rcases e9 with e9 | e9 | e9
    · have hE : nmN (oPut σ k i v).1 = "java/util/NoSuchElementException" := by rw [e9]; rfl
      rw [hE] at h6
      exact V_catch C ht [] (0, 12, 15, 19) [(0, 12, 19, 21), (0, 12, 23, 23)] rfl (E := "java/util/NoSuchElementException") (fun z hz => by cases hz) ⟨by decide, by decide⟩ (by decide) cl_L_19 (List.mem_of_getElem? (i := 1) rfl) (fun q9 => by
        refine V_astore C dL_put_15 (by decide) ?_
        refine V_iconst C (nI 1) dL_put_17 (by decide) ?_
        exact V_iret C hr (by decide) (by decide) dL_put_18 (postH_err hC ho hp hs (by rw [e9]))) hL h2 h3 h4 h5 h6
    · have hE : nmN (oPut σ k i v).1 = "java/lang/IndexOutOfBoundsException" := by rw [e9]; rfl
      rw [hE] at h6
      exact V_catch C ht [(0, 12, 15, 19)] (0, 12, 19, 21) [(0, 12, 23, 23)] rfl (E := "java/lang/IndexOutOfBoundsException") (fun z hz => by rw [List.mem_singleton] at hz; subst hz; exact ⟨by decide, _, cl_L_19, C.2.2.2.2.2.1.2.2.2.2.2.1.1⟩) ⟨by decide, by decide⟩ (by decide) cl_L_21 (List.mem_of_getElem? (i := 2) rfl) (fun q9 => by
        refine V_astore C dL_put_19 (by decide) ?_
        refine V_iconst C (nI 2) dL_put_21 (by decide) ?_
        exact V_iret C hr (by decide) (by decide) dL_put_22 (postH_err hC ho hp hs (by rw [e9]))) hL h2 h3 h4 h5 h6
    · have hE : nmN (oPut σ k i v).1 = "java/lang/IllegalStateException" := by rw [e9]; rfl
      rw [hE] at h6
      exact V_catch C ht [(0, 12, 15, 19), (0, 12, 19, 21)] (0, 12, 23, 23) [] rfl (E := "java/lang/IllegalStateException") (fun z hz => by rcases List.mem_cons.mp hz with rfl | hz; exact ⟨by decide, _, cl_L_19, C.2.2.2.2.2.1.2.2.2.2.2.1.2.1⟩; rw [List.mem_singleton] at hz; subst hz; exact ⟨by decide, _, cl_L_21, C.2.2.2.2.2.1.2.2.2.2.2.1.2.2⟩) ⟨by decide, by decide⟩ (by decide) cl_L_23 (List.mem_of_getElem? (i := 3) rfl) (fun q9 => by
        refine V_astore C dL_put_23 (by decide) ?_
        refine V_iconst C (nI 3) dL_put_25 (by decide) ?_
        exact V_iret C hr (by decide) (by decide) dL_put_26 (postH_err hC ho hp hs (by rw [e9]))) hL h2 h3 h4 h5 h6
  · have hm := postH_out hv ho hg
    have hf := postH_ok hv hI' ho hg
    obtain ⟨-, rfl, -⟩ := hv
    refine VV.eqv (st' := [.int (oPut σ k i v).2.1, .int (nI 0), .ref out]) rfl rfl ?_
    refine V_i2l C dL_put_10 ?_
    refine N_last C hm (by decide) (by decide) dL_put_11 ?_
    refine V_goto C 27 dL_put_12 (by decide) ?_
    refine V_iconst C (nI 0) dL_put_27 (by decide) ?_
    exact V_iret C hr (by decide) (by decide) dL_put_28 hf
theorem wh_put : WSH RL 62 yL_put cL_put 6 (some .int) [(0, 12, 15, 19), (0, 12, 19, 21), (0, 12, 23, 23)] 5 := ⟨⟨ml_L_62, st_L_put, ini_L, cw_L_put⟩, by decide +kernel, by decide +kernel, by decide +kernel⟩
set_option maxHeartbeats 4000000 in
set_option maxRecDepth 100000 in
theorem h_get (l : Launch) (hl : l.stackTraces = false) (base : Nat) (D : va_G) (ct : Nat → ClassId) (sa : Nat → Nat) {A : Nat → Nat → Nat} {G ob : Nat → Nat} {σ : Sg} {M : Mem} {x B : Nat} (hC : RepC ct A G ob σ M x) (hI : Inv B σ) (hB : B ≤ 600) {K' out : Nat} {f : Nat → Int64} (ho : M out = some (.inl (ct 2, 1, .inr (.inl f)))) (hg : G out = 0) (k i : Int32) (hI' : Inv K' (oGet σ k i).2.2) :
    CT l yL_get (.codeWith yL_get cL_get 5 (some .int) [(0, 10, 13, 19), (0, 10, 17, 21)] :: WL) (rmK 8 2 12) base D ct sa M [.ref x, .int k, .int i, .ref out] (PostH ct G M x out (oGet σ k i)) noX := by
  refine CT.ofH hl (by decide) (Nat.le_of_ble_eq_true rfl) ?_
  intro p e s m below meth c C hr ht
  refine V_aload_n C dL_get_0 (by rfl) ?_
  refine V_iconst C (nI 0) dL_get_1 (by decide) ?_
  refine V_aload_n C dL_get_2 (by rfl) ?_
  refine V_iload_n C dL_get_3 (by rfl) ?_
  refine V_iload_n C dL_get_4 (by rfl) ?_
  refine V_callVx C (As := [.int k, .int i]) (c_get l hl base D ct sa hC hI hB k i) w_L_25 hC.1 rfl rfl (by decide) (Nat.le_of_ble_eq_true rfl) ⟨by decide, by decide⟩ dL_get_5 (fun ls hL E M9 ce q9 H1 locs1 h1 h2 h3 h4 h5 h6 => ?_) (fun v9 M1 hv => ?_)
  · obtain ⟨hp, rfl, rfl⟩ := h1
    obtain ⟨hs, e9⟩ := er_get σ k i hp
    rcases e9 with e9 | e9
    · have hE : nmN (oGet σ k i).1 = "java/util/NoSuchElementException" := by rw [e9]; rfl
      rw [hE] at h6
      exact V_catch C ht [] (0, 10, 13, 19) [(0, 10, 17, 21)] rfl (E := "java/util/NoSuchElementException") (fun z hz => by cases hz) ⟨by decide, by decide⟩ (by decide) cl_L_19 (List.mem_of_getElem? (i := 1) rfl) (fun q9 => by
        refine V_astore C dL_get_13 (by decide) ?_
        refine V_iconst C (nI 1) dL_get_15 (by decide) ?_
        exact V_iret C hr (by decide) (by decide) dL_get_16 (postH_err hC ho hp hs (by rw [e9]))) hL h2 h3 h4 h5 h6
    · have hE : nmN (oGet σ k i).1 = "java/lang/IndexOutOfBoundsException" := by rw [e9]; rfl
      rw [hE] at h6
      exact V_catch C ht [(0, 10, 13, 19)] (0, 10, 17, 21) [] rfl (E := "java/lang/IndexOutOfBoundsException") (fun z hz => by rw [List.mem_singleton] at hz; subst hz; exact ⟨by decide, _, cl_L_19, C.2.2.2.2.2.1.2.2.2.2.2.1.1⟩) ⟨by decide, by decide⟩ (by decide) cl_L_21 (List.mem_of_getElem? (i := 2) rfl) (fun q9 => by
        refine V_astore C dL_get_17 (by decide) ?_
        refine V_iconst C (nI 2) dL_get_19 (by decide) ?_
        exact V_iret C hr (by decide) (by decide) dL_get_20 (postH_err hC ho hp hs (by rw [e9]))) hL h2 h3 h4 h5 h6
  · have hm := postH_out hv ho hg
    have hf := postH_ok hv hI' ho hg
    obtain ⟨-, rfl, -⟩ := hv
    refine VV.eqv (st' := [.int (oGet σ k i).2.1, .int (nI 0), .ref out]) rfl rfl ?_
    refine V_i2l C dL_get_8 ?_
    refine N_last C hm (by decide) (by decide) dL_get_9 ?_
    refine V_goto C 21 dL_get_10 (by decide) ?_
    refine V_iconst C (nI 0) dL_get_21 (by decide) ?_
    exact V_iret C hr (by decide) (by decide) dL_get_22 hf
theorem wh_get : WSH RL 66 yL_get cL_get 5 (some .int) [(0, 10, 13, 19), (0, 10, 17, 21)] 4 := ⟨⟨ml_L_66, st_L_get, ini_L, cw_L_get⟩, by decide +kernel, by decide +kernel, by decide +kernel⟩
set_option maxHeartbeats 4000000 in
set_option maxRecDepth 100000 in
theorem h_save (l : Launch) (hl : l.stackTraces = false) (base : Nat) (D : va_G) (ct : Nat → ClassId) (sa : Nat → Nat) {A : Nat → Nat → Nat} {G ob : Nat → Nat} {σ : Sg} {M : Mem} {x B : Nat} (hC : RepC ct A G ob σ M x) (hI : Inv B σ) (hB : B ≤ 600) {K' out : Nat} {f : Nat → Int64} (ho : M out = some (.inl (ct 2, 1, .inr (.inl f)))) (hg : G out = 0) (hI' : Inv K' (oSave σ).2.2) :
    CT l yL_save (.codeWith yL_save cL_save 3 (some .int) [(0, 8, 11, 13)] :: WL) (rmK 8 5 32) base D ct sa M [.ref x, .ref out] (PostH ct G M x out (oSave σ)) noX := by
  refine CT.ofH hl (by decide) (Nat.le_of_ble_eq_true rfl) ?_
  intro p e s m below meth c C hr ht
  refine V_aload_n C dL_save_0 (by rfl) ?_
  refine V_iconst C (nI 0) dL_save_1 (by decide) ?_
  refine V_aload_n C dL_save_2 (by rfl) ?_
  refine V_callVx C (As := []) (c_save l hl base D ct sa hC hI hB) w_L_29 hC.1 rfl rfl (by decide) (Nat.le_of_ble_eq_true rfl) ⟨by decide, by decide⟩ dL_save_3 (fun ls hL E M9 ce q9 H1 locs1 h1 h2 h3 h4 h5 h6 => ?_) (fun v9 M1 hv => ?_)
  · obtain ⟨hp, rfl, rfl⟩ := h1
    obtain ⟨hs, e9⟩ := er_save σ hp
    have hE : nmU (oSave σ).1 = "java/lang/UnsupportedOperationException" := by rw [e9]; rfl
    rw [hE] at h6
    exact V_catch C ht [] (0, 8, 11, 13) [] rfl (E := "java/lang/UnsupportedOperationException") (fun z hz => by cases hz) ⟨by decide, by decide⟩ (by decide) cl_L_13 (List.mem_of_getElem? (i := 0) rfl) (fun q9 => by
      refine V_astore_n C dL_save_11 (by decide) ?_
      refine V_iconst C (nI 1) dL_save_12 (by decide) ?_
      exact V_iret C hr (by decide) (by decide) dL_save_13 (postH_err hC ho hp hs (by rw [e9]))) hL h2 h3 h4 h5 h6
  · have hm := postH_out hv ho hg
    have hf := postH_ok hv hI' ho hg
    obtain ⟨-, rfl, -⟩ := hv
    refine VV.eqv (st' := [.int (oSave σ).2.1, .int (nI 0), .ref out]) rfl rfl ?_
    refine V_i2l C dL_save_6 ?_
    refine N_last C hm (by decide) (by decide) dL_save_7 ?_
    refine V_goto C 14 dL_save_8 (by decide) ?_
    refine V_iconst C (nI 0) dL_save_14 (by decide) ?_
    exact V_iret C hr (by decide) (by decide) dL_save_15 hf
theorem wh_save : WSH RL 70 yL_save cL_save 3 (some .int) [(0, 8, 11, 13)] 2 := ⟨⟨ml_L_70, st_L_save, ini_L, cw_L_save⟩, by decide +kernel, by decide +kernel, by decide +kernel⟩
set_option maxHeartbeats 4000000 in
set_option maxRecDepth 100000 in
theorem h_state (l : Launch) (hl : l.stackTraces = false) (base : Nat) (D : va_G) (ct : Nat → ClassId) (sa : Nat → Nat) {A : Nat → Nat → Nat} {G ob : Nat → Nat} {σ : Sg} {M : Mem} {x B : Nat} (hC : RepC ct A G ob σ M x) (hI : Inv B σ) (hB : B ≤ 600) {K' out : Nat} {f : Nat → Int64} (ho : M out = some (.inl (ct 2, 1, .inr (.inl f)))) (hg : G out = 0) (i v : Int32) (hI' : Inv K' (oState σ i v).2.2) :
    CT l yL_state (.codeWith yL_state cL_state 5 (some .int) [(0, 10, 13, 19), (0, 10, 17, 21)] :: WL) (rmK 8 2 12) base D ct sa M [.ref x, .int i, .int v, .ref out] (PostH ct G M x out (oState σ i v)) noX := by
  refine CT.ofH hl (by decide) (Nat.le_of_ble_eq_true rfl) ?_
  intro p e s m below meth c C hr ht
  refine V_aload_n C dL_state_0 (by rfl) ?_
  refine V_iconst C (nI 0) dL_state_1 (by decide) ?_
  refine V_aload_n C dL_state_2 (by rfl) ?_
  refine V_iload_n C dL_state_3 (by rfl) ?_
  refine V_iload_n C dL_state_4 (by rfl) ?_
  refine V_callVx C (As := [.int i, .int v]) (c_state l hl base D ct sa hC hI hB i v) w_L_33 hC.1 rfl rfl (by decide) (Nat.le_of_ble_eq_true rfl) ⟨by decide, by decide⟩ dL_state_5 (fun ls hL E M9 ce q9 H1 locs1 h1 h2 h3 h4 h5 h6 => ?_) (fun v9 M1 hv => ?_)
  · obtain ⟨hp, rfl, rfl⟩ := h1
    obtain ⟨hs, e9⟩ := er_state σ i v hp
    rcases e9 with e9 | e9
    · have hE : nmN (oState σ i v).1 = "java/util/NoSuchElementException" := by rw [e9]; rfl
      rw [hE] at h6
      exact V_catch C ht [] (0, 10, 13, 19) [(0, 10, 17, 21)] rfl (E := "java/util/NoSuchElementException") (fun z hz => by cases hz) ⟨by decide, by decide⟩ (by decide) cl_L_19 (List.mem_of_getElem? (i := 1) rfl) (fun q9 => by
        refine V_astore C dL_state_13 (by decide) ?_
        refine V_iconst C (nI 1) dL_state_15 (by decide) ?_
        exact V_iret C hr (by decide) (by decide) dL_state_16 (postH_err hC ho hp hs (by rw [e9]))) hL h2 h3 h4 h5 h6
    · have hE : nmN (oState σ i v).1 = "java/lang/IndexOutOfBoundsException" := by rw [e9]; rfl
      rw [hE] at h6
      exact V_catch C ht [(0, 10, 13, 19)] (0, 10, 17, 21) [] rfl (E := "java/lang/IndexOutOfBoundsException") (fun z hz => by rw [List.mem_singleton] at hz; subst hz; exact ⟨by decide, _, cl_L_19, C.2.2.2.2.2.1.2.2.2.2.2.1.1⟩) ⟨by decide, by decide⟩ (by decide) cl_L_21 (List.mem_of_getElem? (i := 2) rfl) (fun q9 => by
        refine V_astore C dL_state_17 (by decide) ?_
        refine V_iconst C (nI 2) dL_state_19 (by decide) ?_
        exact V_iret C hr (by decide) (by decide) dL_state_20 (postH_err hC ho hp hs (by rw [e9]))) hL h2 h3 h4 h5 h6
  · have hm := postH_out hv ho hg
    have hf := postH_ok hv hI' ho hg
    obtain ⟨-, rfl, -⟩ := hv
    refine VV.eqv (st' := [.int (oState σ i v).2.1, .int (nI 0), .ref out]) rfl rfl ?_
    refine V_i2l C dL_state_8 ?_
    refine N_last C hm (by decide) (by decide) dL_state_9 ?_
    refine V_goto C 21 dL_state_10 (by decide) ?_
    refine V_iconst C (nI 0) dL_state_21 (by decide) ?_
    exact V_iret C hr (by decide) (by decide) dL_state_22 hf
theorem wh_state : WSH RL 78 yL_state cL_state 5 (some .int) [(0, 10, 13, 19), (0, 10, 17, 21)] 4 := ⟨⟨ml_L_78, st_L_state, ini_L, cw_L_state⟩, by decide +kernel, by decide +kernel, by decide +kernel⟩
set_option maxHeartbeats 4000000 in
set_option maxRecDepth 100000 in
theorem h_stateOf (l : Launch) (hl : l.stackTraces = false) (base : Nat) (D : va_G) (ct : Nat → ClassId) (sa : Nat → Nat) {A : Nat → Nat → Nat} {G ob : Nat → Nat} {σ : Sg} {M : Mem} {x B : Nat} (hC : RepC ct A G ob σ M x) (hI : Inv B σ) (hB : B ≤ 600) {K' out : Nat} {f : Nat → Int64} (ho : M out = some (.inl (ct 2, 1, .inr (.inl f)))) (hg : G out = 0) (i : Int32) (hI' : Inv K' (oStateOf σ i).2.2) :
    CT l yL_stateOf (.codeWith yL_stateOf cL_stateOf 4 (some .int) [(0, 9, 12, 21)] :: WL) (rmK 8 2 12) base D ct sa M [.ref x, .int i, .ref out] (PostH ct G M x out (oStateOf σ i)) noX := by
  refine CT.ofH hl (by decide) (Nat.le_of_ble_eq_true rfl) ?_
  intro p e s m below meth c C hr ht
  refine V_aload_n C dL_stateOf_0 (by rfl) ?_
  refine V_iconst C (nI 0) dL_stateOf_1 (by decide) ?_
  refine V_aload_n C dL_stateOf_2 (by rfl) ?_
  refine V_iload_n C dL_stateOf_3 (by rfl) ?_
  refine V_callVx C (As := [.int i]) (c_stateOf l hl base D ct sa hC hI hB i) w_L_36 hC.1 rfl rfl (by decide) (Nat.le_of_ble_eq_true rfl) ⟨by decide, by decide⟩ dL_stateOf_4 (fun ls hL E M9 ce q9 H1 locs1 h1 h2 h3 h4 h5 h6 => ?_) (fun v9 M1 hv => ?_)
  · obtain ⟨hp, rfl, rfl⟩ := h1
    obtain ⟨hs, e9⟩ := er_stateOf σ i hp
    have hE : nmB (oStateOf σ i).1 = "java/lang/IndexOutOfBoundsException" := by rw [e9]; rfl
    rw [hE] at h6
    exact V_catch C ht [] (0, 9, 12, 21) [] rfl (E := "java/lang/IndexOutOfBoundsException") (fun z hz => by cases hz) ⟨by decide, by decide⟩ (by decide) cl_L_21 (List.mem_of_getElem? (i := 2) rfl) (fun q9 => by
      refine V_astore_n C dL_stateOf_12 (by decide) ?_
      refine V_iconst C (nI 1) dL_stateOf_13 (by decide) ?_
      exact V_iret C hr (by decide) (by decide) dL_stateOf_14 (postH_err hC ho hp hs (by rw [e9]))) hL h2 h3 h4 h5 h6
  · have hm := postH_out hv ho hg
    have hf := postH_ok hv hI' ho hg
    obtain ⟨-, rfl, -⟩ := hv
    refine VV.eqv (st' := [.int (oStateOf σ i).2.1, .int (nI 0), .ref out]) rfl rfl ?_
    refine V_i2l C dL_stateOf_7 ?_
    refine N_last C hm (by decide) (by decide) dL_stateOf_8 ?_
    refine V_goto C 15 dL_stateOf_9 (by decide) ?_
    refine V_iconst C (nI 0) dL_stateOf_15 (by decide) ?_
    exact V_iret C hr (by decide) (by decide) dL_stateOf_16 hf
theorem wh_stateOf : WSH RL 81 yL_stateOf cL_stateOf 4 (some .int) [(0, 9, 12, 21)] 3 := ⟨⟨ml_L_81, st_L_stateOf, ini_L, cw_L_stateOf⟩, by decide +kernel, by decide +kernel, by decide +kernel⟩
set_option maxHeartbeats 4000000 in
set_option maxRecDepth 100000 in
theorem h_push (l : Launch) (hl : l.stackTraces = false) (base : Nat) (D : va_G) (ct : Nat → ClassId) (sa : Nat → Nat) {A : Nat → Nat → Nat} {G ob : Nat → Nat} {σ : Sg} {M : Mem} {x B : Nat} (hC : RepC ct A G ob σ M x) (hI : Inv B σ) (hB : B ≤ 600) {K' out : Nat} {f : Nat → Int64} (ho : M out = some (.inl (ct 2, 1, .inr (.inl f)))) (hg : G out = 0) (hI' : Inv K' (oPush σ).2.2) :
    CT l yL_push (.codeWith yL_push cL_push 3 (some .int) [(0, 8, 11, 13)] :: WL) (rmK 8 3 18) base D ct sa M [.ref x, .ref out] (PostH ct G M x out (oPush σ)) noX := by
  refine CT.ofH hl (by decide) (Nat.le_of_ble_eq_true rfl) ?_
  intro p e s m below meth c C hr ht
  refine V_aload_n C dL_push_0 (by rfl) ?_
  refine V_iconst C (nI 0) dL_push_1 (by decide) ?_
  refine V_aload_n C dL_push_2 (by rfl) ?_
  refine V_callVx C (As := []) (c_push l hl base D ct sa hC hI hB) w_L_40 hC.1 rfl rfl (by decide) (Nat.le_of_ble_eq_true rfl) ⟨by decide, by decide⟩ dL_push_3 (fun ls hL E M9 ce q9 H1 locs1 h1 h2 h3 h4 h5 h6 => ?_) (fun v9 M1 hv => ?_)
  · obtain ⟨hp, rfl, rfl⟩ := h1
    obtain ⟨hs, e9⟩ := er_push σ hp
    have hE : nmU (oPush σ).1 = "java/lang/UnsupportedOperationException" := by rw [e9]; rfl
    rw [hE] at h6
    exact V_catch C ht [] (0, 8, 11, 13) [] rfl (E := "java/lang/UnsupportedOperationException") (fun z hz => by cases hz) ⟨by decide, by decide⟩ (by decide) cl_L_13 (List.mem_of_getElem? (i := 0) rfl) (fun q9 => by
      refine V_astore_n C dL_push_11 (by decide) ?_
      refine V_iconst C (nI 1) dL_push_12 (by decide) ?_
      exact V_iret C hr (by decide) (by decide) dL_push_13 (postH_err hC ho hp hs (by rw [e9]))) hL h2 h3 h4 h5 h6
  · have hm := postH_out hv ho hg
    have hf := postH_ok hv hI' ho hg
    obtain ⟨-, rfl, -⟩ := hv
    refine VV.eqv (st' := [.int (oPush σ).2.1, .int (nI 0), .ref out]) rfl rfl ?_
    refine V_i2l C dL_push_6 ?_
    refine N_last C hm (by decide) (by decide) dL_push_7 ?_
    refine V_goto C 14 dL_push_8 (by decide) ?_
    refine V_iconst C (nI 0) dL_push_14 (by decide) ?_
    exact V_iret C hr (by decide) (by decide) dL_push_15 hf
theorem wh_push : WSH RL 85 yL_push cL_push 3 (some .int) [(0, 8, 11, 13)] 2 := ⟨⟨ml_L_85, st_L_push, ini_L, cw_L_push⟩, by decide +kernel, by decide +kernel, by decide +kernel⟩
set_option maxHeartbeats 4000000 in
set_option maxRecDepth 100000 in
theorem h_bytes (l : Launch) (hl : l.stackTraces = false) (base : Nat) (D : va_G) (ct : Nat → ClassId) (sa : Nat → Nat) {A : Nat → Nat → Nat} {G ob : Nat → Nat} {σ : Sg} {M : Mem} {x B : Nat} (hC : RepC ct A G ob σ M x) (hI : Inv B σ) (hB : B ≤ 600) {K' out : Nat} {f : Nat → Int64} (ho : M out = some (.inl (ct 2, 1, .inr (.inl f)))) (hg : G out = 0) (k i v : Int32) (hI' : Inv K' (oBytes σ k i v).2.2) :
    CT l yL_bytes (.codeWith yL_bytes cL_bytes 6 (some .int) [(0, 12, 15, 19), (0, 12, 19, 21)] :: WL) (rmK 8 3 18) base D ct sa M [.ref x, .int k, .int i, .int v, .ref out] (PostH ct G M x out (oBytes σ k i v)) noX := by
  refine CT.ofH hl (by decide) (Nat.le_of_ble_eq_true rfl) ?_
  intro p e s m below meth c C hr ht
  refine V_aload C dL_bytes_0 (by rfl) ?_
  refine V_iconst C (nI 0) dL_bytes_2 (by decide) ?_
  refine V_aload_n C dL_bytes_3 (by rfl) ?_
  refine V_iload_n C dL_bytes_4 (by rfl) ?_
  refine V_iload_n C dL_bytes_5 (by rfl) ?_
  refine V_iload_n C dL_bytes_6 (by rfl) ?_
  refine V_callVx C (As := [.int k, .int i, .int v]) (c_bytes l hl base D ct sa hC hI hB k i v) w_L_43 hC.1 rfl rfl (by decide) (Nat.le_of_ble_eq_true rfl) ⟨by decide, by decide⟩ dL_bytes_7 (fun ls hL E M9 ce q9 H1 locs1 h1 h2 h3 h4 h5 h6 => ?_) (fun v9 M1 hv => ?_)
  · obtain ⟨hp, rfl, rfl⟩ := h1
    obtain ⟨hs, e9⟩ := er_bytes σ k i v hp
    rcases e9 with e9 | e9
    · have hE : nmN (oBytes σ k i v).1 = "java/util/NoSuchElementException" := by rw [e9]; rfl
      rw [hE] at h6
      exact V_catch C ht [] (0, 12, 15, 19) [(0, 12, 19, 21)] rfl (E := "java/util/NoSuchElementException") (fun z hz => by cases hz) ⟨by decide, by decide⟩ (by decide) cl_L_19 (List.mem_of_getElem? (i := 1) rfl) (fun q9 => by
        refine V_astore C dL_bytes_15 (by decide) ?_
        refine V_iconst C (nI 1) dL_bytes_17 (by decide) ?_
        exact V_iret C hr (by decide) (by decide) dL_bytes_18 (postH_err hC ho hp hs (by rw [e9]))) hL h2 h3 h4 h5 h6
    · have hE : nmN (oBytes σ k i v).1 = "java/lang/IndexOutOfBoundsException" := by rw [e9]; rfl
      rw [hE] at h6
      exact V_catch C ht [(0, 12, 15, 19)] (0, 12, 19, 21) [] rfl (E := "java/lang/IndexOutOfBoundsException") (fun z hz => by rw [List.mem_singleton] at hz; subst hz; exact ⟨by decide, _, cl_L_19, C.2.2.2.2.2.1.2.2.2.2.2.1.1⟩) ⟨by decide, by decide⟩ (by decide) cl_L_21 (List.mem_of_getElem? (i := 2) rfl) (fun q9 => by
        refine V_astore C dL_bytes_19 (by decide) ?_
        refine V_iconst C (nI 2) dL_bytes_21 (by decide) ?_
        exact V_iret C hr (by decide) (by decide) dL_bytes_22 (postH_err hC ho hp hs (by rw [e9]))) hL h2 h3 h4 h5 h6
  · have hm := postH_out hv ho hg
    have hf := postH_ok hv hI' ho hg
    obtain ⟨-, rfl, -⟩ := hv
    refine VV.eqv (st' := [.int (oBytes σ k i v).2.1, .int (nI 0), .ref out]) rfl rfl ?_
    refine V_i2l C dL_bytes_10 ?_
    refine N_last C hm (by decide) (by decide) dL_bytes_11 ?_
    refine V_goto C 23 dL_bytes_12 (by decide) ?_
    refine V_iconst C (nI 0) dL_bytes_23 (by decide) ?_
    exact V_iret C hr (by decide) (by decide) dL_bytes_24 hf
theorem wh_bytes : WSH RL 92 yL_bytes cL_bytes 6 (some .int) [(0, 12, 15, 19), (0, 12, 19, 21)] 5 := ⟨⟨ml_L_92, st_L_bytes, ini_L, cw_L_bytes⟩, by decide +kernel, by decide +kernel, by decide +kernel⟩
set_option maxHeartbeats 4000000 in
set_option maxRecDepth 100000 in
theorem h_old (l : Launch) (hl : l.stackTraces = false) (base : Nat) (D : va_G) (ct : Nat → ClassId) (sa : Nat → Nat) {A : Nat → Nat → Nat} {G ob : Nat → Nat} {σ : Sg} {M : Mem} {x B : Nat} (hC : RepC ct A G ob σ M x) (hI : Inv B σ) (hB : B ≤ 600) {K' out : Nat} {f : Nat → Int64} (ho : M out = some (.inl (ct 2, 1, .inr (.inl f)))) (hg : G out = 0) (k : Int32) (hI' : Inv K' (oOld σ k).2.2) :
    CT l yL_old (.codeWith yL_old cL_old 4 (some .int) [(0, 9, 12, 19)] :: WL) (rmK 8 2 12) base D ct sa M [.ref x, .int k, .ref out] (PostH ct G M x out (oOld σ k)) noX := by
  refine CT.ofH hl (by decide) (Nat.le_of_ble_eq_true rfl) ?_
  intro p e s m below meth c C hr ht
  refine V_aload_n C dL_old_0 (by rfl) ?_
  refine V_iconst C (nI 0) dL_old_1 (by decide) ?_
  refine V_aload_n C dL_old_2 (by rfl) ?_
  refine V_iload_n C dL_old_3 (by rfl) ?_
  refine V_callVx C (As := [.int k]) (c_old l hl base D ct sa hC hI hB k) w_L_46 hC.1 rfl rfl (by decide) (Nat.le_of_ble_eq_true rfl) ⟨by decide, by decide⟩ dL_old_4 (fun ls hL E M9 ce q9 H1 locs1 h1 h2 h3 h4 h5 h6 => ?_) (fun v9 M1 hv => ?_)
  · obtain ⟨hp, rfl, rfl⟩ := h1
    obtain ⟨hs, e9⟩ := er_old σ k hp
    have hE : nmN (oOld σ k).1 = "java/util/NoSuchElementException" := by rw [e9]; rfl
    rw [hE] at h6
    exact V_catch C ht [] (0, 9, 12, 19) [] rfl (E := "java/util/NoSuchElementException") (fun z hz => by cases hz) ⟨by decide, by decide⟩ (by decide) cl_L_19 (List.mem_of_getElem? (i := 1) rfl) (fun q9 => by
      refine V_astore_n C dL_old_12 (by decide) ?_
      refine V_iconst C (nI 1) dL_old_13 (by decide) ?_
      exact V_iret C hr (by decide) (by decide) dL_old_14 (postH_err hC ho hp hs (by rw [e9]))) hL h2 h3 h4 h5 h6
  · have hm := postH_out hv ho hg
    have hf := postH_ok hv hI' ho hg
    obtain ⟨-, rfl, -⟩ := hv
    refine VV.eqv (st' := [.int (oOld σ k).2.1, .int (nI 0), .ref out]) rfl rfl ?_
    refine V_i2l C dL_old_7 ?_
    refine N_last C hm (by decide) (by decide) dL_old_8 ?_
    refine V_goto C 15 dL_old_9 (by decide) ?_
    refine V_iconst C (nI 0) dL_old_15 (by decide) ?_
    exact V_iret C hr (by decide) (by decide) dL_old_16 hf
theorem wh_old : WSH RL 99 yL_old cL_old 4 (some .int) [(0, 9, 12, 19)] 3 := ⟨⟨ml_L_99, st_L_old, ini_L, cw_L_old⟩, by decide +kernel, by decide +kernel, by decide +kernel⟩
