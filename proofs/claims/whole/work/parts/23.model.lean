/-! THE REFERENCE: how it holds σ, how a store moves that; its small methods -/
abbrev moL (B : Nat → Nat) (σ : Sg) (th : Int32) : List Value := [.int th, .int (nI (gMade σ)), .int (nI (gAlive σ)), .ref (B 3), .ref (B 4), .ref (B 5), .ref (B 6), .ref (B 7), .int (nI (gSv σ)), .int (nI (gLast σ)), .int (nI (gDeep σ)), .ref (B 11), .ref (B 12), .ref (B 13), .ref (B 14), .ref (B 15), .int (nI (gRows σ)), .ref (B 17), .ref (B 18), .int (nI (gSt σ)), .ref (B 20)]
/-- its arrays: kind, length, what they hold -/
def arM (σ : Sg) : Nat → Option (Nat × Nat × (Nat → Int32))
  | 3 => some (1, 600, nF (σ.1 2))
  | 4 => some (1, 600, nF (σ.1 3))
  | 5 => some (0, 4800, σ.2 0)
  | 6 => some (0, 4800, σ.2 1)
  | 7 => some (0, 10, σ.2 2)
  | 11 => some (0, 16, nF (σ.1 7))
  | 12 => some (0, 16, nF (σ.1 8))
  | 13 => some (0, 16, nF (σ.1 9))
  | 14 => some (0, 16, nF (σ.1 10))
  | 15 => some (0, 160, σ.2 3)
  | 17 => some (0, 600, nF (σ.1 12))
  | 18 => some (0, 600, σ.2 4)
  | 20 => some (0, 240, σ.2 5)
  | _ => none
/-- the reference at mo holds σ, its 'thrown' is th -/
def RepM (ct : Nat → ClassId) (B G : Nat → Nat) (σ : Sg) (th : Int32) (M : Mem) (mo : Nat) : Prop :=
  M mo = some (.inr (4, moL B σ th)) ∧ (G mo = 1 ∧ ∀ a, G a ≠ 0 → M a ≠ none) ∧ ∀ k t N g, arM σ k = some (t, N, g) → G (B k) = k + 2 ∧ ∃ f, M (B k) = some (.inl (ct t, N, .inl f)) ∧ ∀ j, j < N → f j = g j
/-- .. and since M0 only its own cells have changed -/
def HM (ct : Nat → ClassId) (B G : Nat → Nat) (M0 : Mem) (σ : Sg) (th : Int32) (M : Mem) (mo : Nat) : Prop := RepM ct B G σ th M mo ∧ ∀ a, G a = 0 → M a = M0 a
theorem RepM.hold {ct : Nat → ClassId} {B G : Nat → Nat} {σ : Sg} {th : Int32} {M : Mem} {mo : Nat} (h : RepM ct B G σ th M mo) : HM ct B G M σ th M mo := ⟨h, fun _ _ => rfl⟩
theorem HM.trans {ct : Nat → ClassId} {B G : Nat → Nat} {σ σ' : Sg} {th th' : Int32} {M0 M M' : Mem} {mo : Nat} (h : HM ct B G M0 σ th M mo) (h' : HM ct B G M σ' th' M' mo) : HM ct B G M0 σ' th' M' mo := ⟨h'.1, fun a q => (h'.2 a q).trans (h.2 a q)⟩
theorem HM.eq {ct : Nat → ClassId} {B G : Nat → Nat} {σ σ' : Sg} {th : Int32} {M0 M : Mem} {mo : Nat} (h : HM ct B G M0 σ th M mo) (e : σ = σ') : HM ct B G M0 σ' th M mo := by subst e; exact h
def PostM (ct : Nat → ClassId) (B G : Nat → Nat) (M : Mem) (mo : Nat) (r : Nat × Int32 × Sg) : Option Value → Mem → Prop := fun v M' => v = some (.int r.2.1) ∧ HM ct B G M r.2.2 (nI r.1) M' mo
theorem HM.put {ct : Nat → ClassId} {B G : Nat → Nat} {σ σ' : Sg} {th th' : Int32} {M0 M : Mem} {mo : Nat} {e : va_E} (h : HM ct B G M0 σ th M mo) (he : e = .inr (4, moL B σ' th')) (ho : arM σ' = arM σ) : HM ct B G M0 σ' th' (mput M mo e) mo := by
  obtain ⟨⟨h1, ⟨h2, h3⟩, h4⟩, h5⟩ := h
  refine ⟨⟨by rw [mput_eq, he], ⟨h2, fun a ha => ?_⟩, fun k t N g hk => ?_⟩, fun a ha => ?_⟩
  · by_cases q : a = mo
    · rw [q, mput_eq]; exact fun h => by cases h
    · rw [mput_ne q]; exact h3 a ha
  · rw [ho] at hk
    obtain ⟨g1, f, g2, g3⟩ := h4 k t N g hk
    exact ⟨g1, f, by rw [mput_ne (ne_tag g1 h2 (by omega))]; exact g2, g3⟩
  · rw [mput_ne (ne_tag ha h2 (by omega))]; exact h5 a ha
theorem HM.sto {ct : Nat → ClassId} {B G : Nat → Nat} {σ σ' : Sg} {th : Int32} {M0 M : Mem} {mo q t N : Nat} {g g' f : Nat → Int32} (h : HM ct B G M0 σ th M mo) (hk : arM σ q = some (t, N, g)) (hk' : arM σ' q = some (t, N, g')) (hg : ∀ j, j < N → f j = g' j) (ho : ∀ q', q' ≠ q → arM σ' q' = arM σ q') (he : ∀ th, moL B σ' th = moL B σ th) : HM ct B G M0 σ' th (mput M (B q) (.inl (ct t, N, .inl f))) mo := by
  obtain ⟨⟨h1, ⟨h2, h3⟩, h4⟩, h5⟩ := h
  have hq := (h4 q t N g hk).1
  refine ⟨⟨by rw [mput_ne (ne_tag h2 hq (by omega)), he]; exact h1, ⟨h2, fun a ha => ?_⟩, fun k t9 N9 g9 hk9 => ?_⟩, fun a ha => ?_⟩
  · by_cases q9 : a = B q
    · rw [q9, mput_eq]; exact fun h => by cases h
    · rw [mput_ne q9]; exact h3 a ha
  · by_cases e : k = q
    · subst e
      rw [hk'] at hk9
      obtain ⟨rfl, e2⟩ := Prod.mk.inj (Option.some.inj hk9)
      obtain ⟨rfl, rfl⟩ := Prod.mk.inj e2
      exact ⟨hq, f, mput_eq _ _ _, hg⟩
    · rw [ho k e] at hk9
      obtain ⟨g1, f1, g2, g3⟩ := h4 k t9 N9 g9 hk9
      exact ⟨g1, f1, by rw [mput_ne (ne_tag g1 hq (by omega))]; exact g2, g3⟩
  · rw [mput_ne (ne_tag ha hq (by omega))]; exact h5 a ha
theorem ho_3 {σ : Sg} {g : Nat → Nat} : ∀ q, q ≠ 3 → arM (sf σ 2 g) q = arM σ q := by
  intro q h; unfold arM; split <;> first | rfl | exact absurd rfl h
theorem ho_4 {σ : Sg} {g : Nat → Nat} : ∀ q, q ≠ 4 → arM (sf σ 3 g) q = arM σ q := by
  intro q h; unfold arM; split <;> first | rfl | exact absurd rfl h
theorem ho_11 {σ : Sg} {g : Nat → Nat} : ∀ q, q ≠ 11 → arM (sf σ 7 g) q = arM σ q := by
  intro q h; unfold arM; split <;> first | rfl | exact absurd rfl h
theorem ho_12 {σ : Sg} {g : Nat → Nat} : ∀ q, q ≠ 12 → arM (sf σ 8 g) q = arM σ q := by
  intro q h; unfold arM; split <;> first | rfl | exact absurd rfl h
theorem ho_13 {σ : Sg} {g : Nat → Nat} : ∀ q, q ≠ 13 → arM (sf σ 9 g) q = arM σ q := by
  intro q h; unfold arM; split <;> first | rfl | exact absurd rfl h
theorem ho_14 {σ : Sg} {g : Nat → Nat} : ∀ q, q ≠ 14 → arM (sf σ 10 g) q = arM σ q := by
  intro q h; unfold arM; split <;> first | rfl | exact absurd rfl h
theorem ho_17 {σ : Sg} {g : Nat → Nat} : ∀ q, q ≠ 17 → arM (sf σ 12 g) q = arM σ q := by
  intro q h; unfold arM; split <;> first | rfl | exact absurd rfl h
theorem ho_5 {σ : Sg} {g : Nat → Int32} : ∀ q, q ≠ 5 → arM (sw σ 0 g) q = arM σ q := by
  intro q h; unfold arM; split <;> first | rfl | exact absurd rfl h
theorem ho_6 {σ : Sg} {g : Nat → Int32} : ∀ q, q ≠ 6 → arM (sw σ 1 g) q = arM σ q := by
  intro q h; unfold arM; split <;> first | rfl | exact absurd rfl h
theorem ho_7 {σ : Sg} {g : Nat → Int32} : ∀ q, q ≠ 7 → arM (sw σ 2 g) q = arM σ q := by
  intro q h; unfold arM; split <;> first | rfl | exact absurd rfl h
theorem ho_15 {σ : Sg} {g : Nat → Int32} : ∀ q, q ≠ 15 → arM (sw σ 3 g) q = arM σ q := by
  intro q h; unfold arM; split <;> first | rfl | exact absurd rfl h
theorem ho_18 {σ : Sg} {g : Nat → Int32} : ∀ q, q ≠ 18 → arM (sw σ 4 g) q = arM σ q := by
  intro q h; unfold arM; split <;> first | rfl | exact absurd rfl h
theorem ho_20 {σ : Sg} {g : Nat → Int32} : ∀ q, q ≠ 20 → arM (sw σ 5 g) q = arM σ q := by
  intro q h; unfold arM; split <;> first | rfl | exact absurd rfl h
theorem os_0 {σ : Sg} {g : Nat → Nat} : arM (sf σ 0 g) = arM σ := by
  funext q; unfold arM; split <;> rfl
theorem os_1 {σ : Sg} {g : Nat → Nat} : arM (sf σ 1 g) = arM σ := by
  funext q; unfold arM; split <;> rfl
theorem os_4 {σ : Sg} {g : Nat → Nat} : arM (sf σ 4 g) = arM σ := by
  funext q; unfold arM; split <;> rfl
theorem os_5 {σ : Sg} {g : Nat → Nat} : arM (sf σ 5 g) = arM σ := by
  funext q; unfold arM; split <;> rfl
theorem os_6 {σ : Sg} {g : Nat → Nat} : arM (sf σ 6 g) = arM σ := by
  funext q; unfold arM; split <;> rfl
theorem os_11 {σ : Sg} {g : Nat → Nat} : arM (sf σ 11 g) = arM σ := by
  funext q; unfold arM; split <;> rfl
theorem os_13 {σ : Sg} {g : Nat → Nat} : arM (sf σ 13 g) = arM σ := by
  funext q; unfold arM; split <;> rfl
section
variable {p : Program} {l : Launch} {e : Env} {R : Room} {s : State} {m : MethodId} {args : Array Value} {below : List Frame} {meth : Method} {c : Code} {cc : ByteArray} {nL base : Nat} {own : String} {D : va_G} {ct : Nat → ClassId} {sa : Nat → Nat} {Q : State → Prop} {M : Mem} {k n pc : Nat} {lv : List (Nat × Value)} {st : List Value} {B G : Nat → Nat} {σ : Sg} {th : Int32} {M0 : Mem} {mo : Nat}
theorem Y_ild (C : Cx p l s m args meth c cc nL own base D ct sa) {q N j : Nat} {g : Nat → Int32} (hH : HM ct B G M0 σ th M mo) (hk : arM σ q = some (0, N, g)) (hj : j < N) (hN : N < 2 ^ 31) (hd : decode cc pc = .ok (.iaload, 1)) (kk : VV p l e R s m args below meth c nL base D Q M k n (pc + 1) lv (.int (g j) :: st)) : VV p l e R s m args below meth c nL base D Q M k n pc lv (.int (nI j) :: .ref (B q) :: st) := by
  obtain ⟨-, f, h1, h2⟩ := hH.1.2.2 q 0 N g hk
  refine N_iald C h1 hj hN hd ?_
  rw [h2 j hj]; exact kk
theorem Y_zld (C : Cx p l s m args meth c cc nL own base D ct sa) {q N j : Nat} {g : Nat → Int32} (hH : HM ct B G M0 σ th M mo) (hk : arM σ q = some (1, N, g)) (hj : j < N) (hN : N < 2 ^ 31) (hd : decode cc pc = .ok (.baload, 1)) (kk : VV p l e R s m args below meth c nL base D Q M k n (pc + 1) lv (.int (g j) :: st)) : VV p l e R s m args below meth c nL base D Q M k n pc lv (.int (nI j) :: .ref (B q) :: st) := by
  obtain ⟨-, f, h1, h2⟩ := hH.1.2.2 q 1 N g hk
  refine N_zald C h1 hj hN hd ?_
  rw [h2 j hj]; exact kk
theorem Y_ist (C : Cx p l s m args meth c cc nL own base D ct sa) {q N j : Nat} {g g' : Nat → Int32} {x : Int32} (hH : HM ct B G M0 σ th M mo) (σ' : Sg) (hk : arM σ q = some (0, N, g)) (hj : j < N) (hN : N < 2 ^ 31) (hk' : arM σ' q = some (0, N, g')) (hg : ∀ i, i < N → va_up g j x i = g' i) (ho : ∀ q', q' ≠ q → arM σ' q' = arM σ q') (he : ∀ th, moL B σ' th = moL B σ th) (hd : decode cc pc = .ok (.iastore, 1)) (kk : ∀ M' : Mem, HM ct B G M0 σ' th M' mo → VV p l e R s m args below meth c nL base D Q M' k n (pc + 1) lv st) : VV p l e R s m args below meth c nL base D Q M k n pc lv (.int x :: .int (nI j) :: .ref (B q) :: st) := by
  obtain ⟨-, f, h1, h2⟩ := hH.1.2.2 q 0 N g hk
  exact N_iast C h1 hj hN hd (kk _ (hH.sto hk hk' (fun i hi => (upd_up h2 i hi).trans (hg i hi)) ho he))
theorem Y_zst (C : Cx p l s m args meth c cc nL own base D ct sa) {q N j : Nat} {g g' : Nat → Int32} {x : Int32} (hH : HM ct B G M0 σ th M mo) (σ' : Sg) (hk : arM σ q = some (1, N, g)) (hj : j < N) (hN : N < 2 ^ 31) (hk' : arM σ' q = some (1, N, g')) (hg : ∀ i, i < N → va_up g j (vp_nar .boolean x) i = g' i) (ho : ∀ q', q' ≠ q → arM σ' q' = arM σ q') (he : ∀ th, moL B σ' th = moL B σ th) (hd : decode cc pc = .ok (.bastore, 1)) (kk : ∀ M' : Mem, HM ct B G M0 σ' th M' mo → VV p l e R s m args below meth c nL base D Q M' k n (pc + 1) lv st) : VV p l e R s m args below meth c nL base D Q M k n pc lv (.int x :: .int (nI j) :: .ref (B q) :: st) := by
  obtain ⟨-, f, h1, h2⟩ := hH.1.2.2 q 1 N g hk
  exact N_zast C h1 hj hN hd (kk _ (hH.sto hk hk' (fun i hi => (upd_up h2 i hi).trans (hg i hi)) ho he))
theorem Y_put (C : Cx p l s m args meth c cc nL own base D ct sa) {index : Nat} {ref : String} {v : Value} (hH : HM ct B G M0 σ th M mo) (σ' : Sg) (th' : Int32) (j : Nat) (hj : j < 21) (hl : Cond.fieldLink own index ref (TX4 j).2.1 (TX4 j).2.2.1 ∈ WL) (href : (TX4 j).1 = ref) (hfin : (TX4 j).2.2.2 = false) (hn : narrow (tyX4 j) v = v) (hfit : fits (tyX4 j) v = true) (he : (.inr (4, (moL B σ th).set j v) : va_E) = .inr (4, moL B σ' th')) (ho : arM σ' = arM σ) (hd : decode cc pc = .ok (.putfield index, 3)) (kk : ∀ M' : Mem, HM ct B G M0 σ' th' M' mo → VV p l e R s m args below meth c nL base D Q M' k n (pc + 3) lv st) : VV p l e R s m args below meth c nL base D Q M k n pc lv (v :: .ref mo :: st) :=
  V_put C (ci := 4) hH.1.1 rfl wu_X4 j hj hl href tyX4 tyX4_ok nmX4 hfin hn hfit hj hd (kk _ (hH.put he ho))
end
theorem b2i_0 {b : Bool} (h : b2i b = 0) : b = false := by
  cases b
  · rfl
  · exact absurd h (by decide)
theorem b2i_1 {b : Bool} (h : ¬ b2i b = 0) : b = true := by
  cases b
  · exact absurd rfl h
  · rfl
theorem nI_b {n : Nat} (h : n ≤ 1) : (nI n = 0 → n = 0) ∧ (¬ nI n = 0 → n = 1) := by
  have : n = 0 ∨ n = 1 := by omega
  rcases this with rfl | rfl
  · exact ⟨fun _ => rfl, fun h => absurd nI_0 h⟩
  · exact ⟨fun h => absurd h (by decide), fun _ => rfl⟩
theorem nF_up {g : Nat → Nat} {j c : Nat} {x : Int32} (h : x = nI c) (i : Nat) : va_up (nF g) j x i = nF (va_up g j c) i := by
  subst h
  unfold nF va_up
  split <;> rfl
set_option maxHeartbeats 4000000 in
set_option maxRecDepth 100000 in
theorem m_thrown (l : Launch) (hl : l.stackTraces = false) (base : Nat) (D : va_G) (ct : Nat → ClassId) (sa : Nat → Nat) {B G : Nat → Nat} {σ : Sg} {th : Int32} {M : Mem} {mo : Nat} (hR : RepM ct B G σ th M mo) :
    CT l yX4_thrown (.code yX4_thrown cX4_thrown 1 (some .int) :: WL) (rmK 1 0 0) base D ct sa M [.ref mo] (fun v M' => v = some (.int th) ∧ M' = M) noX := by
  refine CT.of hl (by decide) (Nat.le_of_ble_eq_true rfl) ?_
  intro p e s m below meth c C hr hx
  have hH : HM ct B G M σ th M mo := hR.hold
  refine V_aload_n C dX4_thrown_0 (by rfl) ?_
  refine V_get C (ci := 4) hH.1.1 rfl wu_X4 0 (by decide) fl_X4_50 rfl (by rfl) dX4_thrown_1 ?_
  exact V_iret C hr (by decide) (by decide) dX4_thrown_4 ⟨rfl, rfl⟩
set_option maxHeartbeats 4000000 in
set_option maxRecDepth 100000 in
theorem m_isObject (l : Launch) (hl : l.stackTraces = false) (base : Nat) (D : va_G) (ct : Nat → ClassId) (sa : Nat → Nat) {B G : Nat → Nat} {σ : Sg} {th : Int32} {M : Mem} {mo K : Nat} (hR : RepM ct B G σ th M mo) (hI : Inv K σ) (hB : K < 600) (k : Int32) :
    CT l yX4_isObject (.code yX4_isObject cX4_isObject 2 (some .boolean) :: WL) (rmK 1 0 0) base D ct sa M [.ref mo, .int k] (fun v M' => v = some (.int (b2i (isO σ k))) ∧ M' = M) noX := by
  refine CT.of hl (by decide) (Nat.le_of_ble_eq_true rfl) ?_
  intro p e s m below meth c C hr hx
  have hH : HM ct B G M σ th M mo := hR.hold
  obtain ⟨⟨i1, i2, i3, i4, i5, i6, i7, i8⟩, ⟨t1, t2, t3, t4⟩, ⟨s1, s2, s3, s4⟩, ⟨r1, r2, r3, r4, r5, r6⟩, ⟨v1, v2⟩, v3⟩ := id hI
  refine V_iload_n C dX4_isObject_0 (by rfl) ?_
  refine V_if_lt C 25 dX4_isObject_1 (by decide) (fun h_1 => ?_) (fun h_1 => ?_)
  · have hk : isO σ k = false := by simp only [isO, decide_eq_false_iff_not]; rintro ⟨h, _⟩; exact absurd h_1 (Int32.not_lt.mpr h)
    refine V_iconst C (0) dX4_isObject_25 (by decide) ?_
    exact V_zret C hr (by rfl) (by decide) (by decide) dX4_isObject_26 ⟨by rw [hk]; rfl, rfl⟩
  · obtain ⟨o, ho, rfl⟩ := nI_of h_1
    refine V_iload_n C dX4_isObject_4 (by rfl) ?_
    refine V_aload_n C dX4_isObject_5 (by rfl) ?_
    refine V_get C (ci := 4) hH.1.1 rfl wu_X4 1 (by decide) fl_X4_54 rfl (by rfl) dX4_isObject_6 ?_
    refine V_icmp_ge C 25 dX4_isObject_9 (by decide) (fun h_9 => ?_) (fun h_9 => ?_)
    · have hk : isO σ (nI o) = false := by simp only [isO, decide_eq_false_iff_not, nI_clamp ho]; rintro ⟨_, h, _⟩; exact absurd ((nI_leI (by omega) ho).mp h_9) (by omega)
      refine V_iconst C (0) dX4_isObject_25 (by decide) ?_
      exact V_zret C hr (by rfl) (by decide) (by decide) dX4_isObject_26 ⟨by rw [hk]; rfl, rfl⟩
    · have ho2 : o < gMade σ := Nat.lt_of_not_le (fun h => h_9 (nI_le h ho))
      refine V_aload_n C dX4_isObject_12 (by rfl) ?_
      refine V_get C (ci := 4) hH.1.1 rfl wu_X4 3 (by decide) fl_X4_7 rfl (by rfl) dX4_isObject_13 ?_
      refine V_iload_n C dX4_isObject_16 (by rfl) ?_
      refine Y_zld C hH rfl (by omega) (by decide) dX4_isObject_17 ?_
      refine V_if_eq C 25 dX4_isObject_18 (by decide) (fun h_18 => ?_) (fun h_18 => ?_)
      · have hk : isO σ (nI o) = false := by simp only [isO, decide_eq_false_iff_not, nI_clamp ho]; rintro ⟨_, _, h⟩; have := (nI_b (t1 o)).1 h_18; omega
        refine V_iconst C (0) dX4_isObject_25 (by decide) ?_
        exact V_zret C hr (by rfl) (by decide) (by decide) dX4_isObject_26 ⟨by rw [hk]; rfl, rfl⟩
      · have hk : isO σ (nI o) = true := isO_nI ho2 ((nI_b (t1 o)).2 h_18) (by omega)
        refine V_iconst C (1) dX4_isObject_21 (by decide) ?_
        refine V_goto C 26 dX4_isObject_22 (by decide) ?_
        exact V_zret C hr (by rfl) (by decide) (by decide) dX4_isObject_26 ⟨by rw [hk]; rfl, rfl⟩
set_option maxHeartbeats 4000000 in
set_option maxRecDepth 100000 in
theorem m_isValue (l : Launch) (hl : l.stackTraces = false) (base : Nat) (D : va_G) (ct : Nat → ClassId) (sa : Nat → Nat) {B G : Nat → Nat} {σ : Sg} {th : Int32} {M : Mem} {mo K : Nat} (hR : RepM ct B G σ th M mo) (hI : Inv K σ) (hB : K < 600) (v : Int32) :
    CT l yX4_isValue (.code yX4_isValue cX4_isValue 2 (some .boolean) :: WL) (rmK 2 0 0) base D ct sa M [.ref mo, .int v] (fun v9 M' => v9 = some (.int (b2i (isV σ v))) ∧ M' = M) noX := by
  refine CT.of hl (by decide) (Nat.le_of_ble_eq_true rfl) ?_
  intro p e s m below meth c C hr hx
  have hH : HM ct B G M σ th M mo := hR.hold
  obtain ⟨⟨i1, i2, i3, i4, i5, i6, i7, i8⟩, ⟨t1, t2, t3, t4⟩, ⟨s1, s2, s3, s4⟩, ⟨r1, r2, r3, r4, r5, r6⟩, ⟨v1, v2⟩, v3⟩ := id hI
  refine V_iload_n C dX4_isValue_0 (by rfl) ?_
  refine V_if_ge C 14 dX4_isValue_1 (by decide) (fun h_1 => ?_) (fun h_1 => ?_)
  · have hk : isV σ v = true := by simp [isV, h_1]
    refine V_iconst C (1) dX4_isValue_14 (by decide) ?_
    refine V_goto C 19 dX4_isValue_15 (by decide) ?_
    exact V_zret C hr (by rfl) (by decide) (by decide) dX4_isValue_19 ⟨by rw [hk]; rfl, rfl⟩
  · refine V_aload_n C dX4_isValue_4 (by rfl) ?_
    refine V_iconst C (-1) dX4_isValue_5 (by decide) ?_
    refine V_iload_n C dX4_isValue_6 (by rfl) ?_
    refine V_isub C dX4_isValue_7 ?_
    refine V_callV C hx (As := [.int (-1 - v)]) (m_isObject l hl base D ct sa hR hI hB (-1 - v)) w_X4_57 hH.1.1 rfl rfl (by decide) (Nat.le_of_ble_eq_true rfl) ⟨by decide, by decide⟩ dX4_isValue_8 (by decide) (by decide) (fun _ _ h => h) (fun v9 M9 hv9 => ?_)
    obtain ⟨rfl, rfl⟩ := hv9
    refine VV.eqv (st' := [.int (b2i (isO σ (-1 - v)))]) rfl rfl ?_
    refine V_if_eq C 18 dX4_isValue_11 (by decide) (fun h_11 => ?_) (fun h_11 => ?_)
    · have hk : isV σ v = false := by simp [isV, h_1, b2i_0 h_11]
      refine V_iconst C (0) dX4_isValue_18 (by decide) ?_
      exact V_zret C hr (by rfl) (by decide) (by decide) dX4_isValue_19 ⟨by rw [hk]; rfl, rfl⟩
    · have hk : isV σ v = true := by simp [isV, b2i_1 h_11]
      refine V_iconst C (1) dX4_isValue_14 (by decide) ?_
      refine V_goto C 19 dX4_isValue_15 (by decide) ?_
      exact V_zret C hr (by rfl) (by decide) (by decide) dX4_isValue_19 ⟨by rw [hk]; rfl, rfl⟩
set_option maxHeartbeats 4000000 in
set_option maxRecDepth 100000 in
theorem m_isEight (l : Launch) (hl : l.stackTraces = false) (base : Nat) (D : va_G) (ct : Nat → ClassId) (sa : Nat → Nat) (M : Mem) (i : Int32) :
    CT l yX4_isEight (.code yX4_isEight cX4_isEight 1 (some .boolean) :: WL) (rmK 1 0 0) base D ct sa M [.int i] (fun v9 M' => v9 = some (.int (b2i (isN 8 i))) ∧ M' = M) noX := by
  refine CT.of hl (by decide) (Nat.le_of_ble_eq_true rfl) ?_
  intro p e s m below meth c C hr hx
  refine V_iload_n C dX4_isEight_0 (by rfl) ?_
  refine V_if_lt C 14 dX4_isEight_1 (by decide) (fun h_1 => ?_) (fun h_1 => ?_)
  · have hk : isN 8 i = false := by simp only [isN, decide_eq_false_iff_not]; rintro ⟨h, _⟩; exact absurd h_1 (Int32.not_lt.mpr h)
    refine V_iconst C (0) dX4_isEight_14 (by decide) ?_
    exact V_zret C hr (by rfl) (by decide) (by decide) dX4_isEight_15 ⟨by rw [hk]; rfl, rfl⟩
  · obtain ⟨j, hj, rfl⟩ := nI_of h_1
    refine V_iload_n C dX4_isEight_4 (by rfl) ?_
    refine V_bipush C (nI 8) dX4_isEight_5 (by decide) ?_
    refine V_icmp_ge C 14 dX4_isEight_7 (by decide) (fun h_7 => ?_) (fun h_7 => ?_)
    · have hk : isN 8 (nI j) = false := by simp only [isN, decide_eq_false_iff_not, nI_clamp hj]; rintro ⟨_, h⟩; exact absurd ((nI_leI (by decide) hj).mp h_7) (by omega)
      refine V_iconst C (0) dX4_isEight_14 (by decide) ?_
      exact V_zret C hr (by rfl) (by decide) (by decide) dX4_isEight_15 ⟨by rw [hk]; rfl, rfl⟩
    · have hk : isN 8 (nI j) = true := by simp only [isN, decide_eq_true_eq, nI_clamp hj]; exact ⟨nI_pos' hj, Nat.lt_of_not_le (fun h => h_7 (nI_le h hj))⟩
      refine V_iconst C (1) dX4_isEight_10 (by decide) ?_
      refine V_goto C 15 dX4_isEight_11 (by decide) ?_
      exact V_zret C hr (by rfl) (by decide) (by decide) dX4_isEight_15 ⟨by rw [hk]; rfl, rfl⟩
set_option maxHeartbeats 4000000 in
set_option maxRecDepth 100000 in
theorem m_isParameter (l : Launch) (hl : l.stackTraces = false) (base : Nat) (D : va_G) (ct : Nat → ClassId) (sa : Nat → Nat) (M : Mem) (i : Int32) :
    CT l yX4_isParameter (.code yX4_isParameter cX4_isParameter 1 (some .boolean) :: WL) (rmK 1 0 0) base D ct sa M [.int i] (fun v9 M' => v9 = some (.int (b2i (isN 10 i))) ∧ M' = M) noX := by
  refine CT.of hl (by decide) (Nat.le_of_ble_eq_true rfl) ?_
  intro p e s m below meth c C hr hx
  refine V_iload_n C dX4_isParameter_0 (by rfl) ?_
  refine V_if_lt C 14 dX4_isParameter_1 (by decide) (fun h_1 => ?_) (fun h_1 => ?_)
  · have hk : isN 10 i = false := by simp only [isN, decide_eq_false_iff_not]; rintro ⟨h, _⟩; exact absurd h_1 (Int32.not_lt.mpr h)
    refine V_iconst C (0) dX4_isParameter_14 (by decide) ?_
    exact V_zret C hr (by rfl) (by decide) (by decide) dX4_isParameter_15 ⟨by rw [hk]; rfl, rfl⟩
  · obtain ⟨j, hj, rfl⟩ := nI_of h_1
    refine V_iload_n C dX4_isParameter_4 (by rfl) ?_
    refine V_bipush C (nI 10) dX4_isParameter_5 (by decide) ?_
    refine V_icmp_ge C 14 dX4_isParameter_7 (by decide) (fun h_7 => ?_) (fun h_7 => ?_)
    · have hk : isN 10 (nI j) = false := by simp only [isN, decide_eq_false_iff_not, nI_clamp hj]; rintro ⟨_, h⟩; exact absurd ((nI_leI (by decide) hj).mp h_7) (by omega)
      refine V_iconst C (0) dX4_isParameter_14 (by decide) ?_
      exact V_zret C hr (by rfl) (by decide) (by decide) dX4_isParameter_15 ⟨by rw [hk]; rfl, rfl⟩
    · have hk : isN 10 (nI j) = true := by simp only [isN, decide_eq_true_eq, nI_clamp hj]; exact ⟨nI_pos' hj, Nat.lt_of_not_le (fun h => h_7 (nI_le h hj))⟩
      refine V_iconst C (1) dX4_isParameter_10 (by decide) ?_
      refine V_goto C 15 dX4_isParameter_11 (by decide) ?_
      exact V_zret C hr (by rfl) (by decide) (by decide) dX4_isParameter_15 ⟨by rw [hk]; rfl, rfl⟩
set_option maxHeartbeats 4000000 in
set_option maxRecDepth 100000 in
theorem m_isNewer (l : Launch) (hl : l.stackTraces = false) (base : Nat) (D : va_G) (ct : Nat → ClassId) (sa : Nat → Nat) {B G : Nat → Nat} {σ : Sg} {th : Int32} {M : Mem} {mo K : Nat} (hR : RepM ct B G σ th M mo) (hI : Inv K σ) (hB : K < 600) {v : Int32} (hv : isV σ v = true) {f : Nat} (hf : f ≤ 600) :
    CT l yX4_isNewer (.code yX4_isNewer cX4_isNewer 3 (some .boolean) :: WL) (rmK 1 0 0) base D ct sa M [.ref mo, .int v, .int (nI f)] (fun v9 M' => v9 = some (.int (b2i (isNw σ v f))) ∧ M' = M) noX := by
  refine CT.of hl (by decide) (Nat.le_of_ble_eq_true rfl) ?_
  intro p e s m below meth c C hr hx
  have hH : HM ct B G M σ th M mo := hR.hold
  obtain ⟨⟨i1, i2, i3, i4, i5, i6, i7, i8⟩, ⟨t1, t2, t3, t4⟩, ⟨s1, s2, s3, s4⟩, ⟨r1, r2, r3, r4, r5, r6⟩, ⟨v1, v2⟩, v3⟩ := id hI
  refine V_iload_n C dX4_isNewer_0 (by rfl) ?_
  refine V_if_ge C 26 dX4_isNewer_1 (by decide) (fun h_1 => ?_) (fun h_1 => ?_)
  · have hk : isNw σ v f = false := by simp only [isNw, decide_eq_false_iff_not]; rintro ⟨h, _⟩; exact absurd h (Int32.not_lt.mpr h_1)
    refine V_iconst C (0) dX4_isNewer_26 (by decide) ?_
    exact V_zret C hr (by rfl) (by decide) (by decide) dX4_isNewer_27 ⟨by rw [hk]; rfl, rfl⟩
  · have hv0 : v < 0 := Int32.not_le.mp h_1
    have hvo : isO σ (-1 - v) = true := by simpa [isV, h_1] using hv
    obtain ⟨o, eo, ho, ht, ec⟩ := isO_of hvo (by omega)
    have er : rfOf v = o := ec
    refine V_iconst C (-1) dX4_isNewer_4 (by decide) ?_
    refine V_iload_n C dX4_isNewer_5 (by rfl) ?_
    refine V_isub C dX4_isNewer_6 ?_
    refine V_top eo ?_
    refine V_iload_n C dX4_isNewer_7 (by rfl) ?_
    refine V_icmp_lt C 26 dX4_isNewer_8 (by decide) (fun h_8 => ?_) (fun h_8 => ?_)
    · have hk : isNw σ v f = false := by simp only [isNw, decide_eq_false_iff_not, er]; rintro ⟨_, h, _⟩; exact absurd ((nI_ltI (by omega) (by omega)).mp h_8) (by omega)
      refine V_iconst C (0) dX4_isNewer_26 (by decide) ?_
      exact V_zret C hr (by rfl) (by decide) (by decide) dX4_isNewer_27 ⟨by rw [hk]; rfl, rfl⟩
    · have hf9 : f ≤ o := Nat.le_of_not_lt (fun h => h_8 (nI_lt h (by omega)))
      refine V_aload_n C dX4_isNewer_11 (by rfl) ?_
      refine V_get C (ci := 4) hH.1.1 rfl wu_X4 4 (by decide) fl_X4_13 rfl (by rfl) dX4_isNewer_12 ?_
      refine V_iconst C (-1) dX4_isNewer_15 (by decide) ?_
      refine V_iload_n C dX4_isNewer_16 (by rfl) ?_
      refine V_isub C dX4_isNewer_17 ?_
      refine V_top eo ?_
      refine Y_zld C hH rfl (by omega) (by decide) dX4_isNewer_18 ?_
      refine V_if_ne C 26 dX4_isNewer_19 (by decide) (fun h_19 => ?_) (fun h_19 => ?_)
      · have hk : isNw σ v f = false := by simp only [isNw, decide_eq_false_iff_not, er]; rintro ⟨_, _, h⟩; have := (nI_b (t2 o)).2 h_19; omega
        refine V_iconst C (0) dX4_isNewer_26 (by decide) ?_
        exact V_zret C hr (by rfl) (by decide) (by decide) dX4_isNewer_27 ⟨by rw [hk]; rfl, rfl⟩
      · have hk : isNw σ v f = true := by simp only [isNw, decide_eq_true_eq, er]; exact ⟨hv0, hf9, (nI_b (t2 o)).1 h_19⟩
        refine V_iconst C (1) dX4_isNewer_22 (by decide) ?_
        refine V_goto C 27 dX4_isNewer_23 (by decide) ?_
        exact V_zret C hr (by rfl) (by decide) (by decide) dX4_isNewer_27 ⟨by rw [hk]; rfl, rfl⟩
set_option maxHeartbeats 4000000 in
set_option maxRecDepth 100000 in
theorem m_ownStates (l : Launch) (hl : l.stackTraces = false) (base : Nat) (D : va_G) (ct : Nat → ClassId) (sa : Nat → Nat) {B G : Nat → Nat} {σ : Sg} {th : Int32} {M : Mem} {mo : Nat} (hR : RepM ct B G σ th M mo) (i5 : gSv σ ≤ 16) (hle : 0 < gSv σ → gSb σ (gSv σ - 1) ≤ gSt σ) :
    CT l yX4_ownStates (.code yX4_ownStates cX4_ownStates 1 (some .int) :: WL) (rmK 1 0 0) base D ct sa M [.ref mo] (fun v9 M' => v9 = some (.int (nI (ownS σ))) ∧ M' = M) noX := by
  refine CT.of hl (by decide) (Nat.le_of_ble_eq_true rfl) ?_
  intro p e s m below meth c C hr hx
  have hH : HM ct B G M σ th M mo := hR.hold
  refine V_aload_n C dX4_ownStates_0 (by rfl) ?_
  refine V_get C (ci := 4) hH.1.1 rfl wu_X4 8 (by decide) fl_X4_64 rfl (by rfl) dX4_ownStates_1 ?_
  refine V_if_ne C 14 dX4_ownStates_4 (by decide) (fun h_4 => ?_) (fun h_4 => ?_)
  · have h0 : 0 < gSv σ := Nat.pos_of_ne_zero (fun h => h_4 (by rw [h]; exact nI_0))
    refine V_aload_n C dX4_ownStates_14 (by rfl) ?_
    refine V_get C (ci := 4) hH.1.1 rfl wu_X4 19 (by decide) fl_X4_83 rfl (by rfl) dX4_ownStates_15 ?_
    refine V_aload_n C dX4_ownStates_18 (by rfl) ?_
    refine V_get C (ci := 4) hH.1.1 rfl wu_X4 14 (by decide) fl_X4_35 rfl (by rfl) dX4_ownStates_19 ?_
    refine V_aload_n C dX4_ownStates_22 (by rfl) ?_
    refine V_get C (ci := 4) hH.1.1 rfl wu_X4 8 (by decide) fl_X4_64 rfl (by rfl) dX4_ownStates_23 ?_
    refine V_iconst C (1) dX4_ownStates_26 (by decide) ?_
    refine V_isub C dX4_ownStates_27 ?_
    refine V_top (pk_sub (b := 1) h0) ?_
    refine Y_ild C hH rfl (by omega) (by decide) dX4_ownStates_28 ?_
    refine V_isub C dX4_ownStates_29 ?_
    refine V_top (pk_sub (hle h0)) ?_
    have hk : ownS σ = gSt σ - gSb σ (gSv σ - 1) := by unfold ownS; rw [if_neg (by omega)]
    exact V_iret C hr (by decide) (by decide) dX4_ownStates_30 ⟨by rw [hk], rfl⟩
  · have h0 : gSv σ = 0 := Nat.eq_zero_of_not_pos (fun h => nI_ne0 h (by omega) h_4)
    have hk : ownS σ = gSt σ := by unfold ownS; rw [if_pos h0]
    refine V_aload_n C dX4_ownStates_7 (by rfl) ?_
    refine V_get C (ci := 4) hH.1.1 rfl wu_X4 19 (by decide) fl_X4_83 rfl (by rfl) dX4_ownStates_8 ?_
    refine V_goto C 30 dX4_ownStates_11 (by decide) ?_
    exact V_iret C hr (by decide) (by decide) dX4_ownStates_30 ⟨by rw [hk], rfl⟩
set_option maxHeartbeats 4000000 in
set_option maxRecDepth 100000 in
theorem m_deepest (l : Launch) (hl : l.stackTraces = false) (base : Nat) (D : va_G) (ct : Nat → ClassId) (sa : Nat → Nat) {B G : Nat → Nat} {σ : Sg} {th : Int32} {M : Mem} {mo K : Nat} (hR : RepM ct B G σ th M mo) (hI : Inv K σ) (hB : K < 600) :
    CT l yX4_deepest (.code yX4_deepest cX4_deepest 1 (some .int) :: WL) (rmK 1 0 0) base D ct sa M [.ref mo] (PostM ct B G M mo (0, nI (gDeep σ), σ)) noX := by
  refine CT.of hl (by decide) (Nat.le_of_ble_eq_true rfl) ?_
  intro p e s m below meth c C hr hx
  have hH : HM ct B G M σ th M mo := hR.hold
  obtain ⟨⟨i1, i2, i3, i4, i5, i6, i7, i8⟩, ⟨t1, t2, t3, t4⟩, ⟨s1, s2, s3, s4⟩, ⟨r1, r2, r3, r4, r5, r6⟩, ⟨v1, v2⟩, v3⟩ := id hI
  refine V_aload_n C dX4_deepest_0 (by rfl) ?_
  refine V_iconst C (0) dX4_deepest_1 (by decide) ?_
  refine Y_put C hH (σ) (0) 0 (by decide) fl_X4_50 rfl rfl (by rfl) (by rfl) (by rfl) rfl dX4_deepest_2 (fun M1 hH => ?_)
  refine V_aload_n C dX4_deepest_5 (by rfl) ?_
  refine V_get C (ci := 4) hH.1.1 rfl wu_X4 10 (by decide) fl_X4_86 rfl (by rfl) dX4_deepest_6 ?_
  exact V_iret C hr (by decide) (by decide) dX4_deepest_9 ⟨rfl, hH⟩
set_option maxHeartbeats 4000000 in
set_option maxRecDepth 100000 in
theorem m_used (l : Launch) (hl : l.stackTraces = false) (base : Nat) (D : va_G) (ct : Nat → ClassId) (sa : Nat → Nat) {B G : Nat → Nat} {σ : Sg} {th : Int32} {M : Mem} {mo K : Nat} (hR : RepM ct B G σ th M mo) (hI : Inv K σ) (hB : K < 600) :
    CT l yX4_used (.code yX4_used cX4_used 1 (some .int) :: WL) (rmK 1 0 0) base D ct sa M [.ref mo] (PostM ct B G M mo (0, oUsed σ, σ)) noX := by
  refine CT.of hl (by decide) (Nat.le_of_ble_eq_true rfl) ?_
  intro p e s m below meth c C hr hx
  have hH : HM ct B G M σ th M mo := hR.hold
  obtain ⟨⟨i1, i2, i3, i4, i5, i6, i7, i8⟩, ⟨t1, t2, t3, t4⟩, ⟨s1, s2, s3, s4⟩, ⟨r1, r2, r3, r4, r5, r6⟩, ⟨v1, v2⟩, v3⟩ := id hI
  refine V_aload_n C dX4_used_0 (by rfl) ?_
  refine V_iconst C (0) dX4_used_1 (by decide) ?_
  refine Y_put C hH (σ) (0) 0 (by decide) fl_X4_50 rfl rfl (by rfl) (by rfl) (by rfl) rfl dX4_used_2 (fun M1 hH => ?_)
  refine V_bipush C (nI 12) dX4_used_5 (by decide) ?_
  refine V_aload_n C dX4_used_7 (by rfl) ?_
  refine V_get C (ci := 4) hH.1.1 rfl wu_X4 2 (by decide) fl_X4_61 rfl (by rfl) dX4_used_8 ?_
  refine V_imul C dX4_used_11 ?_
  refine V_iconst C (nI 3) dX4_used_12 (by decide) ?_
  refine V_aload_n C dX4_used_13 (by rfl) ?_
  refine V_get C (ci := 4) hH.1.1 rfl wu_X4 16 (by decide) fl_X4_67 rfl (by rfl) dX4_used_14 ?_
  refine V_imul C dX4_used_17 ?_
  refine V_iadd C dX4_used_18 ?_
  refine V_bipush C (nI 6) dX4_used_19 (by decide) ?_
  refine V_aload_n C dX4_used_21 (by rfl) ?_
  refine V_get C (ci := 4) hH.1.1 rfl wu_X4 8 (by decide) fl_X4_64 rfl (by rfl) dX4_used_22 ?_
  refine V_imul C dX4_used_25 ?_
  refine V_iadd C dX4_used_26 ?_
  refine V_bipush C (nI 10) dX4_used_27 (by decide) ?_
  refine V_aload_n C dX4_used_29 (by rfl) ?_
  refine V_get C (ci := 4) hH.1.1 rfl wu_X4 19 (by decide) fl_X4_83 rfl (by rfl) dX4_used_30 ?_
  refine V_imul C dX4_used_33 ?_
  refine V_iadd C dX4_used_34 ?_
  refine V_top (y := oUsed σ) ?_ ?_
  · rw [pk_mul, pk_mul, pk_mul, pk_mul, nI_add, nI_add, nI_add]; rfl
  exact V_iret C hr (by decide) (by decide) dX4_used_35 ⟨rfl, hH⟩
