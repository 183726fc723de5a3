/-! dropLocalsNewerThan -/
theorem mput_mput (M : Mem) (a : Nat) (e e' : va_E) : mput (mput M a e) a e' = mput M a e' := by
  funext b; unfold mput; split <;> rfl
theorem mput_id {M : Mem} {a : Nat} {e : va_E} (h : M a = some e) : mput M a e = M := by
  funext b; unfold mput; split
  · subst_vars; exact h.symm
  · rfl
def stay (σ : Sg) (f o : Nat) : Bool := !decide (gGlob σ o = 0 ∧ f ≤ o)
/-- how many of the first p objects go -/
def gnE (σ : Sg) (ob : Nat → Nat) (f : Nat) : Nat → Nat
  | 0 => 0
  | p + 1 => gnE σ ob f p + (if stay σ f (ob p) then 0 else 1)
/-- the loop's picture: p seen, c stay -/
def LI (A : Nat → Nat → Nat) (σ : Sg) (ob : Nat → Nat) (f p c : Nat) (tf' : Nat → Option Nat) (ob' : Nat → Nat) : Prop :=
  c + gnE σ ob f p = p ∧ (∀ j, j < c → tf' j = some (A 8 (ob' j))) ∧ (∀ j, p ≤ j → j < gAlive σ → tf' j = some (A 8 (ob j))) ∧ (∀ j, j < c → ∃ i, i < p ∧ ob' j = ob i ∧ stay σ f (ob i) = true) ∧ (∀ i j, i < j → j < c → ob' i < ob' j) ∧ (∀ i, i < p → stay σ f (ob i) = true → ∃ j, j < c ∧ ob' j = ob i)
theorem LI.skip {A : Nat → Nat → Nat} {σ : Sg} {ob : Nat → Nat} {f p c : Nat} {tf' : Nat → Option Nat} {ob' : Nat → Nat} (h : LI A σ ob f p c tf' ob') (hs : stay σ f (ob p) = false) : LI A σ ob f (p + 1) c tf' ob' := by
  obtain ⟨h1, h2, h3, h4, h5, h6⟩ := h
  refine ⟨by simp only [gnE, hs]; simp; omega, h2, fun j g1 g2 => h3 j (by omega) g2, fun j hj => ?_, h5, fun i hi g => ?_⟩
  · obtain ⟨i, g1, g2⟩ := h4 j hj; exact ⟨i, by omega, g2⟩
  · rcases Nat.lt_or_ge i p with q | q
    · exact h6 i q g
    · rw [show i = p by omega, hs] at g; cases g
theorem LI.keep {A : Nat → Nat → Nat} {σ : Sg} {ob : Nat → Nat} {f p c : Nat} {tf' : Nat → Option Nat} {ob' : Nat → Nat} (hO : ∀ i j, i < j → j < gAlive σ → ob i < ob j) (hp : p < gAlive σ) (h : LI A σ ob f p c tf' ob') (hs : stay σ f (ob p) = true) : LI A σ ob f (p + 1) (c + 1) (va_up tf' c (some (A 8 (ob p)))) (va_up ob' c (ob p)) := by
  obtain ⟨h1, h2, h3, h4, h5, h6⟩ := h
  refine ⟨by simp only [gnE, hs]; simp; omega, fun j hj => ?_, fun j g1 g2 => ?_, fun j hj => ?_, fun i j hij hj => ?_, fun i hi g => ?_⟩
  · by_cases e : j = c
    · subst e; rw [va_up_self, va_up_self]
    · rw [va_up_ne _ _ e, va_up_ne _ _ e]; exact h2 j (by omega)
  · rw [va_up_ne _ _ (by omega)]; exact h3 j (by omega) g2
  · by_cases e : j = c
    · subst e; exact ⟨p, by omega, va_up_self _ _ _, hs⟩
    · rw [va_up_ne _ _ e]; obtain ⟨i, g1, g2⟩ := h4 j (by omega); exact ⟨i, by omega, g2⟩
  · rw [va_up_ne _ _ (show i ≠ c by omega)]
    by_cases e : j = c
    · subst e; rw [va_up_self]; obtain ⟨i', g1, g2, -⟩ := h4 i hij; rw [g2]; exact hO i' p g1 hp
    · rw [va_up_ne _ _ e]; exact h5 i j hij (by omega)
  · rcases Nat.lt_or_ge i p with q | q
    · obtain ⟨j, g1, g2⟩ := h6 i q g; exact ⟨j, by omega, by rw [va_up_ne _ _ (by omega)]; exact g2⟩
    · rw [show i = p by omega]; exact ⟨c, by omega, va_up_self _ _ _⟩
set_option maxHeartbeats 4000000 in
set_option maxRecDepth 100000 in
theorem c_drop (l : Launch) (hl : l.stackTraces = false) (base : Nat) (D : va_G) (ct : Nat → ClassId) (sa : Nat → Nat) {A : Nat → Nat → Nat} {σ : Sg} {ob : Nat → Nat} {M : Mem} {x q f : Nat} {tf : Nat → Option Nat} {y1 y3 y4 y5 y6 : Value} (hx0 : M x = some (xE A σ)) (htf : M (A 1 0) = some (.inl (ct 4, 200, .inr (.inr (.inr (.inr tf)))))) (htf2 : ∀ j, j < gAlive σ → tf j = some (A 8 (ob j))) (hTh : ∀ j, j < gAlive σ → M (A 8 (ob j)) = some (tE A σ (ob j))) (hs : M q = some (.inr (1, [y1, .int (nI f), y3, y4, y5, y6]))) (hO : ∀ i j, i < j → j < gAlive σ → ob i < ob j) (hob : ∀ j, j < gAlive σ → ob j < 600) (hal : gAlive σ ≤ 200) (hf : f ≤ 600) (hgl : ∀ o, gGlob σ o ≤ 1) (nx : x ≠ A 1 0) :
    CT l yX3_dropLocalsNewerThan (.code yX3_dropLocalsNewerThan cX3_dropLocalsNewerThan 5 none :: WL) (rmK 2 0 0) base D ct sa M [.ref x, .ref q] (fun (v9 : Option Value) (M' : Mem) => v9 = none ∧ ∃ c tf' ob', LI A σ ob f (gAlive σ) c tf' ob' ∧ M' = mput (mput M (A 1 0) (.inl (ct 4, 200, .inr (.inr (.inr (.inr tf')))))) x (.inr (3, [.ref (A 1 0), .int (nI c), .int (nI (gMade σ)), .ref (A 2 0), .int (nI (gSv σ)), .int (nI (gLast σ)), .int (nI (gDeep σ)), .ref (A 3 0), .ref (A 4 0), .int (nI (gSt σ))]))) noX := by
  refine CT.of hl (by decide) (Nat.le_of_ble_eq_true rfl) ?_
  intro p e s m below meth c C hr hx
  have nq : q ≠ A 1 0 := fun e => by rw [e, htf] at hs; cases hs
  have nT : ∀ j, j < gAlive σ → A 8 (ob j) ≠ A 1 0 := fun j hj e => by have := hTh j hj; rw [e, htf] at this; cases this
  have loop : ∀ (d t k9 : Nat) (tf' : Nat → Option Nat) (ob' : Nat → Nat), gAlive σ ≤ t + d → t ≤ gAlive σ → LI A σ ob f t k9 tf' ob' → VV p l e (rmK 2 0 0) s m ([.ref x, .ref q] : List Value).toArray below meth c 5 base D (QB base D (fun (v9 : Option Value) (M' : Mem) => v9 = none ∧ ∃ c tf' ob', LI A σ ob f (gAlive σ) c tf' ob' ∧ M' = mput (mput M (A 1 0) (.inl (ct 4, 200, .inr (.inr (.inr (.inr tf')))))) x (.inr (3, [.ref (A 1 0), .int (nI c), .int (nI (gMade σ)), .ref (A 2 0), .int (nI (gSv σ)), .int (nI (gLast σ)), .int (nI (gDeep σ)), .ref (A 3 0), .ref (A 4 0), .int (nI (gSt σ))]))) noX below ([.ref x, .ref q] : List Value).toArray s 0 0) (mput M (A 1 0) (.inl (ct 4, 200, .inr (.inr (.inr (.inr tf')))))) 0 0 4 [(0, .ref x), (1, .ref q), (2, .int (nI k9)), (3, .int (nI t))] [] := by
    intro d
    induction d with
    | zero =>
      intro t k9 tf' ob' h1 h2 hL
      have htt : t = gAlive σ := by omega
      have hx1 : (mput M (A 1 0) (.inl (ct 4, 200, .inr (.inr (.inr (.inr tf')))))) x = some (xE A σ) := (mput_ne nx).trans hx0
      refine V_iload_n C dX3_dropLocalsNewerThan_4 (by rfl) ?_
      refine V_aload_n C dX3_dropLocalsNewerThan_5 (by rfl) ?_
      refine V_get C (ci := 3) hx1 rfl wu_X3 1 (by decide) fl_X3_15 rfl (by rfl) dX3_dropLocalsNewerThan_6 ?_
      refine V_icmp_ge C 54 dX3_dropLocalsNewerThan_9 (by decide) (fun h_9 => ?_) (fun h_9 => absurd h_9 (fun h => h ((nI_leI (by omega) (by omega)).mpr (by omega))))
      refine V_aload_n C dX3_dropLocalsNewerThan_54 (by rfl) ?_
      refine V_iload_n C dX3_dropLocalsNewerThan_55 (by rfl) ?_
      refine V_put C (ci := 3) hx1 rfl wu_X3 1 (by decide) fl_X3_15 rfl tyX3 tyX3_ok nmX3 rfl (by rfl) (by rfl) (Nat.le_of_ble_eq_true rfl) dX3_dropLocalsNewerThan_56 ?_
      exact V_vret C hr (by decide) (by decide) dX3_dropLocalsNewerThan_59 ⟨rfl, k9, tf', ob', by rw [htt] at hL; exact hL, rfl⟩
    | succ d ih =>
      intro t k9 tf' ob' h1 h2 hL
      rcases Nat.lt_or_ge t (gAlive σ) with ht | ht
      · have hx1 : (mput M (A 1 0) (.inl (ct 4, 200, .inr (.inr (.inr (.inr tf')))))) x = some (xE A σ) := (mput_ne nx).trans hx0
        have ht1 : (mput M (A 1 0) (.inl (ct 4, 200, .inr (.inr (.inr (.inr tf')))))) (A 8 (ob t)) = some (tE A σ (ob t)) := (mput_ne (nT t ht)).trans (hTh t ht)
        have hs1 : (mput M (A 1 0) (.inl (ct 4, 200, .inr (.inr (.inr (.inr tf')))))) q = some (.inr (1, [y1, .int (nI f), y3, y4, y5, y6])) := (mput_ne nq).trans hs
        have hobt := hob t ht
        have hk9 : k9 ≤ t := by have := hL.1; omega
        have go : ∀ (c9 : Nat) (tf2 : Nat → Option Nat) (ob2 : Nat → Nat), LI A σ ob f (t + 1) c9 tf2 ob2 → VV p l e (rmK 2 0 0) s m ([.ref x, .ref q] : List Value).toArray below meth c 5 base D (QB base D (fun (v9 : Option Value) (M' : Mem) => v9 = none ∧ ∃ c tf' ob', LI A σ ob f (gAlive σ) c tf' ob' ∧ M' = mput (mput M (A 1 0) (.inl (ct 4, 200, .inr (.inr (.inr (.inr tf')))))) x (.inr (3, [.ref (A 1 0), .int (nI c), .int (nI (gMade σ)), .ref (A 2 0), .int (nI (gSv σ)), .int (nI (gLast σ)), .int (nI (gDeep σ)), .ref (A 3 0), .ref (A 4 0), .int (nI (gSt σ))]))) noX below ([.ref x, .ref q] : List Value).toArray s 0 0) (mput M (A 1 0) (.inl (ct 4, 200, .inr (.inr (.inr (.inr tf2)))))) 0 0 48 [(0, .ref x), (1, .ref q), (2, .int (nI c9)), (3, .int (nI t))] [] := by
          intro c9 tf2 ob2 hL2
          refine V_inc1 C dX3_dropLocalsNewerThan_48 (by rfl) (by decide) ?_
          refine V_goto C 4 dX3_dropLocalsNewerThan_51 (by decide) ?_
          refine VV.loc [(0, .ref x), (1, .ref q), (2, .int (nI c9)), (3, .int (nI (t + 1)))] ⟨rfl, rfl, rfl, (by rw [← nI_1]; rfl), trivial⟩ ?_
          exact ih (t + 1) c9 tf2 ob2 (by omega) (by omega) hL2
        refine V_iload_n C dX3_dropLocalsNewerThan_4 (by rfl) ?_
        refine V_aload_n C dX3_dropLocalsNewerThan_5 (by rfl) ?_
        refine V_get C (ci := 3) hx1 rfl wu_X3 1 (by decide) fl_X3_15 rfl (by rfl) dX3_dropLocalsNewerThan_6 ?_
        refine V_icmp_ge C 54 dX3_dropLocalsNewerThan_9 (by decide) (fun h_9 => absurd h_9 (fun h => absurd ((nI_leI (by omega) (by omega)).mp h) (by omega))) (fun h_9 => ?_)
        refine V_aload_n C dX3_dropLocalsNewerThan_12 (by rfl) ?_
        refine V_get C (ci := 3) hx1 rfl wu_X3 0 (by decide) fl_X3_11 rfl (by rfl) dX3_dropLocalsNewerThan_13 ?_
        refine V_iload_n C dX3_dropLocalsNewerThan_16 (by rfl) ?_
        refine N_aldT C (mput_eq _ _ _) (by omega) (by decide) (hL.2.2.1 t (Nat.le_refl _) ht) dX3_dropLocalsNewerThan_17 ?_
        refine V_astore C dX3_dropLocalsNewerThan_18 (by decide) ?_
        refine V_aload C dX3_dropLocalsNewerThan_20 (by rfl) ?_
        refine V_get C (ci := 2) ht1 rfl wu_X2 1 (by decide) fl_X3_75 rfl (by rfl) dX3_dropLocalsNewerThan_22 ?_
        refine V_if_ne C 37 dX3_dropLocalsNewerThan_25 (by decide) (fun h25 => ?_) (fun h25 => ?_)
        · refine V_aload_n C dX3_dropLocalsNewerThan_37 (by rfl) ?_
          refine V_get C (ci := 3) hx1 rfl wu_X3 0 (by decide) fl_X3_11 rfl (by rfl) dX3_dropLocalsNewerThan_38 ?_
          refine V_iload_n C dX3_dropLocalsNewerThan_41 (by rfl) ?_
          refine V_aload C dX3_dropLocalsNewerThan_42 (by rfl) ?_
          refine N_aastT C ht1 (mput_eq _ _ _) (by omega) (by decide) dX3_dropLocalsNewerThan_44 ?_
          refine VV.eqv (mput_mput _ _ _ _) rfl ?_
          refine V_inc1 C dX3_dropLocalsNewerThan_45 (by rfl) (by decide) ?_
          refine VV.loc [(0, .ref x), (1, .ref q), (2, .int (nI (k9 + 1))), (3, .int (nI t))] ⟨rfl, rfl, (by rw [← nI_1]; rfl), rfl, trivial⟩ ?_
          exact go (k9 + 1) _ _ (hL.keep hO ht (by simp only [stay, Bool.not_eq_true', decide_eq_false_iff_not]; rintro ⟨h, _⟩; rw [h] at h25; exact h25 rfl))
        · refine V_aload C dX3_dropLocalsNewerThan_28 (by rfl) ?_
          refine V_aload_n C dX3_dropLocalsNewerThan_30 (by rfl) ?_
          refine V_callV C hx (As := [.ref q]) (c_isNewerThan l hl base D ct sa (by omega) (by omega) ht1 hs1) w_X3_146 ht1 rfl rfl (by decide) (Nat.le_of_ble_eq_true rfl) ⟨by decide, by decide⟩ dX3_dropLocalsNewerThan_31 (by decide) (by decide) (fun _ _ h => h.elim) (fun v9 M1 hv => ?_)
          obtain ⟨rfl, rfl⟩ := hv
          refine VV.eqv (M' := mput M (A 1 0) (.inl (ct 4, 200, .inr (.inr (.inr (.inr tf')))))) (st' := [.int (b2i (decide (f ≤ ob t)))]) rfl rfl ?_
          have hg0 : gGlob σ (ob t) = 0 := by
            have := hgl (ob t)
            rcases Nat.eq_zero_or_pos (gGlob σ (ob t)) with h | h
            · exact h
            · rw [show gGlob σ (ob t) = 1 by omega] at h25; exact absurd h25 (by decide)
          refine V_if_ne C 48 dX3_dropLocalsNewerThan_34 (by decide) (fun h34 => ?_) (fun h34 => ?_)
          · refine VV.loc [(0, .ref x), (1, .ref q), (2, .int (nI k9)), (3, .int (nI t))] ⟨rfl, rfl, rfl, rfl, trivial⟩ ?_
            exact go k9 _ _ (hL.skip (by simp only [stay, Bool.not_eq_false', decide_eq_true_eq]; refine ⟨hg0, ?_⟩; rcases Nat.lt_or_ge (ob t) f with h | h; rw [decide_eq_false (by omega)] at h34; exact absurd rfl h34; exact h))
          · refine V_aload_n C dX3_dropLocalsNewerThan_37 (by rfl) ?_
            refine V_get C (ci := 3) hx1 rfl wu_X3 0 (by decide) fl_X3_11 rfl (by rfl) dX3_dropLocalsNewerThan_38 ?_
            refine V_iload_n C dX3_dropLocalsNewerThan_41 (by rfl) ?_
            refine V_aload C dX3_dropLocalsNewerThan_42 (by rfl) ?_
            refine N_aastT C ht1 (mput_eq _ _ _) (by omega) (by decide) dX3_dropLocalsNewerThan_44 ?_
            refine VV.eqv (mput_mput _ _ _ _) rfl ?_
            refine V_inc1 C dX3_dropLocalsNewerThan_45 (by rfl) (by decide) ?_
            refine VV.loc [(0, .ref x), (1, .ref q), (2, .int (nI (k9 + 1))), (3, .int (nI t))] ⟨rfl, rfl, (by rw [← nI_1]; rfl), rfl, trivial⟩ ?_
            exact go (k9 + 1) _ _ (hL.keep hO ht (by simp only [stay, Bool.not_eq_true', decide_eq_false_iff_not]; rintro ⟨_, h⟩; rw [decide_eq_true h] at h34; exact absurd h34 (by decide)))
      · exact ih t k9 tf' ob' (by omega) h2 hL
  refine V_iconst C (0) dX3_dropLocalsNewerThan_0 (by decide) ?_
  refine V_istore_n C dX3_dropLocalsNewerThan_1 (by decide) ?_
  refine V_iconst C (0) dX3_dropLocalsNewerThan_2 (by decide) ?_
  refine V_istore_n C dX3_dropLocalsNewerThan_3 (by decide) ?_
  refine VV.loc [(0, .ref x), (1, .ref q), (2, .int (nI 0)), (3, .int (nI 0))] ⟨rfl, rfl, rfl, rfl, trivial⟩ ?_
  refine VV.eqv (M' := mput M (A 1 0) (.inl (ct 4, 200, .inr (.inr (.inr (.inr tf)))))) (mput_id htf).symm rfl ?_
  exact loop (gAlive σ) 0 0 tf ob (by omega) (Nat.zero_le _) ⟨rfl, fun j h => absurd h (by omega), fun j _ h => htf2 j h, fun j h => absurd h (by omega), fun i j _ h => absurd h (by omega), fun i h => absurd h (by omega)⟩
/-- counting the objects that go -/
def cntO (σ : Sg) (f : Nat) : Nat → Nat
  | 0 => 0
  | n + 1 => cntO σ f n + (if gThere σ n = 1 ∧ gGlob σ n = 0 ∧ f ≤ n then 1 else 0)
theorem cntO_lo {σ : Sg} {f : Nat} : ∀ n, n ≤ f → cntO σ f n = 0 := by
  intro n
  induction n with
  | zero => intro _; rfl
  | succ n ih => intro h; simp only [cntO]; rw [ih (by omega), if_neg (by omega)]
theorem cntO_gone {σ : Sg} {f : Nat} : ∀ n, cntO σ f (f + n) = goneC σ f n := by
  intro n
  induction n with
  | zero => exact cntO_lo f (Nat.le_refl _)
  | succ n ih =>
    show cntO σ f (f + n) + _ = goneC σ f n + _
    rw [ih]
    congr 1
    by_cases h : gThere σ (f + n) = 1 ∧ gGlob σ (f + n) = 0
    · rw [if_pos h, if_pos ⟨h.1, h.2, Nat.le_add_right f n⟩]
    · rw [if_neg h, if_neg (fun g => h ⟨g.1, g.2.1⟩)]
theorem cnt_enum {σ : Sg} {ob : Nat → Nat} (hO : RepO ob σ) (f : Nat) : ∀ n, n ≤ gMade σ → ∃ p, p ≤ gAlive σ ∧ (∀ i, i < p → ob i < n) ∧ (∀ i, p ≤ i → i < gAlive σ → n ≤ ob i) ∧ gnE σ ob f p = cntO σ f n := by
  intro n
  induction n with
  | zero => intro _; exact ⟨0, Nat.zero_le _, fun i h => absurd h (by omega), fun i _ _ => Nat.zero_le _, rfl⟩
  | succ n ih =>
    intro hn
    obtain ⟨p, h1, h2, h3, h4⟩ := ih (by omega)
    by_cases ht : gThere σ n = 1
    · obtain ⟨i, g1, g2⟩ := hO.2.2 n (by omega) ht
      have hip : p ≤ i := by
        rcases Nat.lt_or_ge i p with q | q
        · have := h2 i q; omega
        · exact q
      have hpe : i = p := by
        rcases Nat.lt_or_ge p i with q | q
        · have q1 := hO.2.1 p i q g1
          have q2 := h3 p (Nat.le_refl _) (by omega)
          omega
        · omega
      subst hpe
      refine ⟨i + 1, by omega, fun j hj => ?_, fun j q1 q2 => ?_, ?_⟩
      · rcases Nat.lt_or_ge j i with q | q
        · have := h2 j q; omega
        · rw [show j = i by omega]; omega
      · have := hO.2.1 i j (by omega) q2; omega
      · simp only [gnE, cntO]
        rw [h4, g2]
        congr 1
        unfold stay
        by_cases q : gGlob σ n = 0 ∧ f ≤ n
        · rw [decide_eq_true q]; exact (if_pos ⟨ht, q.1, q.2⟩).symm
        · rw [decide_eq_false q]; exact (if_neg (fun g => q ⟨g.2.1, g.2.2⟩)).symm
    · refine ⟨p, h1, fun i hi => by have := h2 i hi; omega, fun i q1 q2 => ?_, ?_⟩
      · have q3 := h3 i q1 q2
        rcases Nat.lt_or_ge n (ob i) with q | q
        · exact q
        · have : ob i = n := by omega
          have q4 := (hO.1 i q2).2
          rw [this] at q4; exact absurd q4 ht
      · simp only [cntO]; rw [if_neg (fun g => ht g.1), h4]; rfl
theorem gone_eq {σ : Sg} {ob : Nat → Nat} (hO : RepO ob σ) {f : Nat} (hf : f ≤ gMade σ) : gnE σ ob f (gAlive σ) = goneC σ f (gMade σ - f) := by
  obtain ⟨p, h1, h2, h3, h4⟩ := cnt_enum hO f (gMade σ) (Nat.le_refl _)
  have : p = gAlive σ := by
    rcases Nat.lt_or_ge p (gAlive σ) with q | q
    · have q1 := h3 p (Nat.le_refl _) q
      have q2 := (hO.1 p q).1
      omega
    · omega
  rw [this] at h4
  rw [h4, ← cntO_gone, show f + (gMade σ - f) = gMade σ by omega]
