/-! SaveRestore() -/
def mrows (M : Mem) (rs : List Nat) (e : va_E) : Mem := fun a => if a ∈ rs then some e else M a
def sZ : Sg := (fun _ _ => 0, fun _ _ => 0)
section
variable {p : Program} {l : Launch} {e : Env} {R : Room} {s : State} {m : MethodId} {args : Array Value} {below : List Frame} {meth : Method} {c : Code} {cc : ByteArray} {nL base : Nat} {own : String} {D : va_G} {ct : Nat → ClassId} {sa : Nat → Nat} {Q : State → Prop} {M : Mem} {k n pc : Nat} {lv : List (Nat × Value)} {st : List Value}
set_option maxHeartbeats 4000000 in
theorem V_mna (C : Cx p l s m args meth c cc nL own base D ct sa) {index : Nat} (hl : Cond.classLink own index "[[I" ∈ WL) (hk : k + (1 + 30) ≤ R.cells) (hs : n + (30 + 30 * 8) ≤ R.slots) (hd : decode cc pc = .ok (.multianewarray index 2, 4))
    (kk : ∀ (q : Nat) (r : Nat → Nat), M q = none → (∀ i, i < 30 → M (r i) = none ∧ r i ≠ q) → (∀ i j, i < 30 → j < 30 → r i = r j → i = j) → VV p l e R s m args below meth c nL base D Q (mput (mrows M ((List.range 30).map r) (ar0 ct 8)) q (.inl (ct 5, 30, .inr (.inr (.inr (.inr (fun i => if i < 30 then some (r i) else none))))))) (k + 1 + 30) (n + 30 + 30 * 8) (pc + 4) lv (.ref q :: st)) : VV p l e R s m args below meth c nL base D Q M k n pc lv (.int (nI 8) :: .int (nI 30) :: st) := by
  intro H locs ls hW hS hL
  obtain ⟨L, f9, h1, h2, h3⟩ := id hW
  have hK := C.2.2.2.2.2.1.2.1
  have hcy : s.vm.findClass (FieldType.array .int).toString = some (ct 0) := (hK.2 0 _ rfl).2
  have hcl : (Cond.classLink own index ("[" ++ (FieldType.array .int).toString)).before args s = true := C.2.2.2.2.1 _ hl
  refine va_mna (X := []) (z := (8, .inl (fun _ => 0))) C.1 C.2.1 C.2.2.2.1 hcl C.2.2.2.2.2.1.2.2.2.2.2.2.2.2 (C.2.2.2.2.1 _ ac_int) hcy hK h2 h3 hS C.hA (N' := 30) (K' := 8) (by decide) (by decide) (by decide) (by decide) (by decide) (by decide) (by decide) rfl rfl hk hs (fun c9 => ?_) hd (fun q r cA H1 hinj hnL hK1 hP1 hD1 hS1 => ?_)
  · show ({ cls := c9, slots := Array.replicate 8 (.int 0), vm := .none } : Cell) = _
    rw [arrV_new]
    rfl
  · have e1 : s.vm.findClass ("[" ++ (FieldType.array .int).toString) = some cA := (hK1.2 6 _ rfl).2
    have e2 : s.vm.findClass ("[" ++ (FieldType.array .int).toString) = some (ct 5) := (hK1.2 5 _ rfl).2
    have e3 : cA = ct 5 := Option.some.inj (e1.symm.trans e2)
    subst e3
    have hqL : q ∉ L ++ (List.range 30).map r := by
      intro hq
      obtain ⟨j, hj⟩ := va_pl_get (X := []) (f := vr_up f9 ((List.range 30).map r) (.inl (ct 0, (8, .inl (fun _ => 0))))) hq
      have := hD1.1 0 (j + 1) _ _ rfl hj rfl
      omega
    have hrq : ∀ i, i < 30 → r i ≠ q := fun i hi e => hqL (by rw [← e]; exact List.mem_append_right _ (List.mem_map.mpr ⟨i, List.mem_range.mpr hi, rfl⟩))
    have hnone : ∀ a, a ∉ L → M a = none := fun a ha => by
      cases hq : M a with
      | none => rfl
      | some e => exact absurd (h1 a e hq).1 ha
    have epl : ([(q, (.inl (ct 5, 30, .inr (.inr (.inr (.inr (fun i => if i < 30 then some (r i) else none))))) : va_E))] ++ va_pl (L ++ (List.range 30).map r) (vr_up f9 ((List.range 30).map r) (.inl (ct 0, (8, .inl (fun _ => 0))))) : va_W) = va_pl (q :: (L ++ (List.range 30).map r)) (va_up (vr_up f9 ((List.range 30).map r) (.inl (ct 0, (8, .inl (fun _ => 0))))) q (.inl (ct 5, 30, .inr (.inr (.inr (.inr (fun i => if i < 30 then some (r i) else none))))))) := by
      show (q, _) :: List.map _ _ = (q, _) :: List.map _ _
      rw [va_up_self]
      congr 1
      refine List.map_congr_left (fun a ha => ?_)
      rw [va_up_ne _ _ (fun e => hqL (by rw [← e]; exact ha))]
    refine kk q r (hnone q (fun h => hqL (List.mem_append_left _ h))) (fun i hi => ⟨hnone _ (hnL i hi), hrq i hi⟩) hinj H1 locs ls ⟨q :: (L ++ (List.range 30).map r), va_up (vr_up f9 ((List.range 30).map r) (.inl (ct 0, (8, .inl (fun _ => 0))))) q (.inl (ct 5, 30, .inr (.inr (.inr (.inr (fun i => if i < 30 then some (r i) else none)))))), fun a e9 h => ?_, ?_, ?_⟩ hS1 hL
    · by_cases e : a = q
      · subst e; rw [mput_eq] at h; exact ⟨List.mem_cons_self, by rw [va_up_self]; exact Option.some.inj h⟩
      · rw [mput_ne e] at h
        rw [va_up_ne _ _ e]
        unfold mrows at h
        by_cases g : a ∈ (List.range 30).map r
        · rw [if_pos g] at h
          exact ⟨List.mem_cons_of_mem _ (List.mem_append_right _ g), by rw [vr_up_in g]; exact Option.some.inj h⟩
        · rw [if_neg g] at h
          exact ⟨List.mem_cons_of_mem _ (List.mem_append_left _ (h1 a e9 h).1), by rw [vr_up_ne g]; exact (h1 a e9 h).2⟩
    · rw [← epl]; exact hP1
    · rw [← epl]; exact hD1
/-- a nest mate's private constructor -/
theorem V_callIN (C : Cx p l s m args meth c cc nL own base D ct sa) (hown : own = RX3) {b : Nat} {rm : Room} {post : Option Value → Mem → Prop}
    (hM : CM l yX1_init (.code yX1_init cX1_init 1 none :: WL) rm base D ct sa M [.ref b] post) (hR : rm.frames + 1 ≤ R.frames ∧ 8 + (1 + 11) + rm.locals ≤ R.locals) (hcat : (st.map fun v => v.category).sum ≤ 8) (hf : k + rm.cells ≤ R.cells ∧ n + rm.slots ≤ R.slots) (hd : decode cc pc = .ok (.invokespecial 49, 3))
    (kk : ∀ (v : Option Value) (M' : Mem), post v M' → VV p l e R s m args below meth c nL base D Q M' (k + rm.cells) (n + rm.slots) (pc + 3) lv (v.toList ++ st)) : VV p l e R s m args below meth c nL base D Q M k n pc lv (.ref b :: st) := by
  intro H locs ls hW hS hL
  subst hown
  have hG : GoodIn WL (.code yX1_init cX1_init 1 none :: WL) := good_WL (L := []) co_X1_init (fun w hw => by cases hw)
  have hnw : va_Nw (.methodLinkNest RX3 49 yX1_init RX3) s := C.2.2.2.2.2.1.2.2.2.1 _ (List.mem_of_getElem? (i := 7) rfl)
  have cw := va_cnB (R := R) (s := s) (args := args) (rm := rm) 0 C.2.2.2.2.1 hG rfl rfl rfl hnw (C.2.2.2.2.1 _ ini_X1) (by decide +kernel) hR
  exact VV.runM (va_runIN (Ts := WL) (b := b) (As := []) ⟨C.1, C.2.1, C.2.2.1, C.2.2.2.1, C.2.2.2.2.1⟩ hM ⟨cw, rfl, C.2.2.2.2.1 _ im_X1_init⟩ ⟨PreG.blind, PreG.here C hW hS _⟩ rfl rfl hL.1 rfl (catF hcat) hd hf) hS hL kk
end
theorem tag5 : ∀ (n : Nat) (r : Nat → Nat), (∀ i j, i < n → j < n → r i = r j → i = j) → ∃ G : Nat → Nat, (∀ i, i < n → G (r i) = 16 * i + 5) ∧ ∀ a, (∀ i, i < n → r i ≠ a) → G a = 0 := by
  intro n
  induction n with
  | zero => intro r _; exact ⟨fun _ => 0, fun i h => absurd h (by omega), fun _ _ => rfl⟩
  | succ n ih =>
    intro r hi
    obtain ⟨G, h1, h2⟩ := ih r (fun i j a b e => hi i j (by omega) (by omega) e)
    refine ⟨va_up G (r n) (16 * n + 5), fun i h => ?_, fun a h => ?_⟩
    · by_cases e : i = n
      · subst e; exact va_up_self _ _ _
      · rw [va_up_ne _ _ (fun q => e (hi i n (by omega) (by omega) q))]; exact h1 i (by omega)
    · rw [va_up_ne _ _ (fun q => h n (by omega) q.symm)]; exact h2 a (fun i hi => h i (by omega))
/-- the constructor's picture, with t saves made -/
def CI (ct : Nat → ClassId) (M : Mem) (x t : Nat) (A : Nat → Nat → Nat) (G : Nat → Nat) (Mt : Mem) : Prop :=
  Mt x = some (xE A sZ) ∧ (G x = 13 ∧ (∀ k, 1 ≤ k → k < 5 → G (A k 0) = k) ∧ (∀ k, k < 30 → G (A 5 k) = 16 * k + 5) ∧ (∀ k, k < t → G (A 6 k) = 16 * k + 6 ∧ G (A 7 k) = 16 * k + 7)) ∧
  (∃ tf, Mt (A 1 0) = some (.inl (ct 4, 200, .inr (.inr (.inr (.inr tf)))))) ∧ (∃ sf, Mt (A 2 0) = some (.inl (ct 3, 16, .inr (.inr (.inr (.inr sf))))) ∧ ∀ k, k < t → sf k = some (A 6 k)) ∧ Mt (A 3 0) = some (ar0 ct 10) ∧ (∃ uf, Mt (A 4 0) = some (.inl (ct 5, 30, .inr (.inr (.inr (.inr uf))))) ∧ ∀ k, k < 30 → uf k = some (A 5 k)) ∧ (∀ k, k < 30 → Mt (A 5 k) = some (ar0 ct 8)) ∧
  (∀ k, k < t → Mt (A 6 k) = some (sE A sZ k 0 0 0 none 0) ∧ Mt (A 7 k) = some (ar0 ct 8)) ∧ (∀ a, G a ≠ 0 → (a = x ∨ M a = none) ∧ Mt a ≠ none) ∧ (∀ a, a ≠ x → M a ≠ none → Mt a = M a)
theorem CI.step {ct : Nat → ClassId} {M : Mem} {x t : Nat} {A : Nat → Nat → Nat} {G : Nat → Nat} {Mt M' : Mem} (h : CI ct M x t A G Mt) {q q1 : Nat} (fq : Mt q = none) (f1 : Mt q1 = none) (n1 : q ≠ q1) {sf : Nat → Option Nat} (hsf2 : ∀ k, k < t → sf k = some (A 6 k)) (hold : ∀ a, a ≠ q → a ≠ q1 → a ≠ A 2 0 → M' a = Mt a) (m2 : M' (A 2 0) = some (.inl (ct 3, 16, .inr (.inr (.inr (.inr (va_up sf t (some q)))))))) (mq : M' q = some (.inr (1, [.int 0, .int 0, .int 0, .ref q1, .null, .int 0]))) (m1 : M' q1 = some (ar0 ct 8)) : ∃ A' G', CI ct M x (t + 1) A' G' M' ∧ A' 2 0 = A 2 0 := by
  obtain ⟨h0, ⟨gx, g1, g5, g6⟩, ⟨tf, h1⟩, ⟨sf0, h2, h2b⟩, h3, ⟨uf, h4, h4b⟩, h5, h6, hn, ho⟩ := h
  obtain ⟨A', hA6, hA7, hAo⟩ : ∃ A' : Nat → Nat → Nat, A' 6 t = q ∧ A' 7 t = q1 ∧ ∀ r i, (r ≠ 6 ∧ r ≠ 7) ∨ i ≠ t → A' r i = A r i :=
    ⟨fun r i => if i = t then (if r = 6 then q else if r = 7 then q1 else A r i) else A r i, by simp, by simp, fun r i h => by
      show (if i = t then (if r = 6 then q else if r = 7 then q1 else A r i) else A r i) = A r i
      split
      · rw [if_neg (by omega), if_neg (by omega)]
      · rfl⟩
  have dq : ∀ a, Mt a ≠ none → a ≠ q ∧ a ≠ q1 := fun a h => ⟨fun e => h (by rw [e]; exact fq), fun e => h (by rw [e]; exact f1)⟩
  have nn : ∀ {a : Nat} {e : va_E}, Mt a = some e → Mt a ≠ none := fun h => by rw [h]; exact Option.some_ne_none _
  have Gd : ∀ a, Mt a ≠ none → va_up (va_up G q (16 * t + 6)) q1 (16 * t + 7) a = G a := fun a h => by rw [va_up_ne _ _ (dq a h).2, va_up_ne _ _ (dq a h).1]
  have mv : ∀ {a t9 : Nat} {e : va_E}, Mt a = some e → G a = t9 → t9 ≠ 2 → M' a = some e := fun {a t9 e} h g d => by rw [hold a (dq a (nn h)).1 (dq a (nn h)).2 (ne_tag g (g1 2 (by decide) (by decide)) d)]; exact h
  refine ⟨A', va_up (va_up G q (16 * t + 6)) q1 (16 * t + 7), ⟨?_, ⟨by rw [Gd x (nn h0)]; exact gx, fun k a b => ?_, fun k hk => ?_, fun k hk => ?_⟩, ⟨tf, ?_⟩, ⟨va_up sf t (some q), ?_, fun k hk => ?_⟩, ?_, ⟨uf, ?_, fun k hk => ?_⟩, fun k hk => ?_, fun k hk => ?_, fun a ha => ?_, fun a a1 a2 => ?_⟩, hAo 2 0 (by omega)⟩
  · rw [mv h0 gx (by decide)]; unfold xE; rw [hAo 1 0 (by omega), hAo 2 0 (by omega), hAo 3 0 (by omega), hAo 4 0 (by omega)]
  · rw [hAo k 0 (by omega), Gd]
    · exact g1 k a b
    · rcases (show k = 1 ∨ k = 2 ∨ k = 3 ∨ k = 4 by omega) with rfl | rfl | rfl | rfl
      · exact nn h1
      · exact nn h2
      · exact nn h3
      · exact nn h4
  · rw [hAo 5 k (by omega), Gd _ (nn (h5 k hk))]; exact g5 k hk
  · by_cases e : k = t
    · subst e; rw [hA6, hA7, va_up_self, va_up_ne _ _ n1, va_up_self]; exact ⟨rfl, rfl⟩
    · have hk' : k < t := by omega
      rw [hAo 6 k (by omega), hAo 7 k (by omega), Gd _ (nn (h6 k hk').1), Gd _ (nn (h6 k hk').2)]; exact g6 k hk'
  · rw [hAo 1 0 (by omega)]; exact mv h1 (g1 1 (by decide) (by decide)) (by decide)
  · rw [hAo 2 0 (by omega)]; exact m2
  · by_cases e : k = t
    · subst e; rw [va_up_self, hA6]
    · rw [va_up_ne _ _ e, hAo 6 k (by omega)]; exact hsf2 k (by omega)
  · rw [hAo 3 0 (by omega)]; exact mv h3 (g1 3 (by decide) (by decide)) (by decide)
  · rw [hAo 4 0 (by omega)]; exact mv h4 (g1 4 (by decide) (by decide)) (by decide)
  · rw [hAo 5 k (by omega)]; exact h4b k hk
  · rw [hAo 5 k (by omega)]; exact mv (h5 k hk) (g5 k hk) (by omega)
  · by_cases e : k = t
    · subst e; unfold sE; rw [hA6, hA7]; exact ⟨mq, m1⟩
    · have hk' : k < t := by omega
      unfold sE
      rw [hAo 6 k (by omega), hAo 7 k (by omega)]
      exact ⟨mv (h6 k hk').1 (g6 k hk').1 (by omega), mv (h6 k hk').2 (g6 k hk').2 (by omega)⟩
  · by_cases e1 : a = q1
    · subst e1
      refine ⟨Or.inr ?_, by rw [m1]; exact Option.some_ne_none _⟩
      by_cases hM : M a = none
      · exact hM
      · have := ho a (fun e => (dq x (nn h0)).2 e.symm) hM; rw [f1] at this; exact this.symm
    · by_cases e2 : a = q
      · subst e2
        refine ⟨Or.inr ?_, by rw [mq]; exact Option.some_ne_none _⟩
        by_cases hM : M a = none
        · exact hM
        · have := ho a (fun e => (dq x (nn h0)).1 e.symm) hM; rw [fq] at this; exact this.symm
      · rw [va_up_ne _ _ e1, va_up_ne _ _ e2] at ha
        obtain ⟨p1, p2⟩ := hn a ha
        refine ⟨p1, ?_⟩
        by_cases e3 : a = A 2 0
        · rw [e3, m2]; exact Option.some_ne_none _
        · rw [hold a e2 e1 e3]; exact p2
  · have e0 : Mt a ≠ none := by rw [ho a a1 a2]; exact a2
    have e3 : a ≠ A 2 0 := fun e => by
      have := (hn (A 2 0) (by rw [g1 2 (by decide) (by decide)]; decide)).1
      rw [← e] at this
      rcases this with h | h
      · exact a1 h
      · exact a2 h
    rw [hold a (dq a e0).1 (dq a e0).2 e3]; exact ho a a1 a2
theorem inv_zero : Inv 0 sZ := by
  refine ⟨⟨Nat.le_refl _, Nat.le_refl _, Nat.le_refl _, Nat.zero_le _, Nat.zero_le _, Nat.zero_le _, Nat.le_refl _, Nat.zero_le _⟩, ⟨fun _ => Nat.zero_le _, fun _ => Nat.zero_le _, fun o h => absurd (show (0 : Nat) = 1 from h) (by decide), fun _ _ => ⟨rfl, rfl⟩⟩, ⟨fun k h => absurd h (by exact Nat.not_lt_zero _), fun j k _ h => absurd h (by exact Nat.not_lt_zero _), fun k h => absurd h (by exact Nat.not_lt_zero _), fun j k _ h => absurd h (by exact Nat.not_lt_zero _)⟩, ⟨fun k h => absurd h (by exact Nat.not_lt_zero _), fun j k _ h => absurd h (by exact Nat.not_lt_zero _), fun k h => absurd h (by exact Nat.not_lt_zero _), fun j k _ h => absurd h (by exact Nat.not_lt_zero _), fun _ => rfl, fun h => absurd h (by exact Nat.not_lt_zero _)⟩, ⟨⟨by decide, by decide⟩, fun k r r' h => absurd h (by exact Nat.not_lt_zero _)⟩, fun k r h => absurd h (by exact Nat.not_lt_zero _)⟩
theorem CI.rep {ct : Nat → ClassId} {M : Mem} {x : Nat} {A : Nat → Nat → Nat} {G : Nat → Nat} {Mt : Mem} (h : CI ct M x 16 A G Mt) : RepC ct A G (fun _ => 0) sZ Mt x := by
  obtain ⟨h0, ⟨gx, g1, g5, g6⟩, ⟨tf, h1⟩, ⟨sf0, h2, h2b⟩, h3, ⟨uf, h4, h4b⟩, h5, h6, hn, ho⟩ := h
  exact ⟨h0, ⟨gx, g1, g5, g6, fun o h => absurd (show (0 : Nat) = 1 from h) (by decide), fun r h => absurd h (by exact Nat.not_lt_zero _)⟩, ⟨fun j h => absurd h (by exact Nat.not_lt_zero _), fun i j _ h => absurd h (by exact Nat.not_lt_zero _), fun o h => absurd h (by exact Nat.not_lt_zero _)⟩, ⟨⟨tf, h1, fun j h => absurd h (by exact Nat.not_lt_zero _)⟩, ⟨sf0, h2, h2b⟩, ⟨_, h3, fun _ _ => rfl⟩, ⟨uf, h4, h4b⟩, fun k hk => ⟨_, h5 k hk, fun h => absurd h (by exact Nat.not_lt_zero _)⟩⟩, fun o h => absurd (show (0 : Nat) = 1 from h) (by decide), fun k hk => ⟨fun h => absurd h (by exact Nat.not_lt_zero _), fun _ => ⟨0, 0, 0, _, (h6 k hk).1, (h6 k hk).2⟩⟩, fun k r h => absurd h (by exact Nat.not_lt_zero _)⟩
theorem mrows_in {M : Mem} {r : Nat → Nat} {e : va_E} {i n : Nat} (h : i < n) : mrows M ((List.range n).map r) e (r i) = some e := if_pos (List.mem_map.mpr ⟨i, List.mem_range.mpr h, rfl⟩)
theorem mrows_ne {M : Mem} {r : Nat → Nat} {e : va_E} {n a : Nat} (h : ∀ i, i < n → r i ≠ a) : mrows M ((List.range n).map r) e a = M a := if_neg (fun g => by obtain ⟨i, g1, g2⟩ := List.mem_map.mp g; exact h i (List.mem_range.mp g1) g2)
set_option maxHeartbeats 4000000 in
set_option maxRecDepth 100000 in
theorem c_SRInit (l : Launch) (hl : l.stackTraces = false) (base : Nat) (D : va_G) (ct : Nat → ClassId) (sa : Nat → Nat) {M : Mem} {x : Nat} (hx0 : M x = some (.inr (3, [.null, .int 0, .int 0, .null, .int 0, .int 0, .int 0, .null, .null, .int 0]))) :
    CM l yX3_init (.code yX3_init cX3_init 2 none :: WL) (rmK 2 100 900) base D ct sa M [.ref x] (fun (v9 : Option Value) (M' : Mem) => v9 = none ∧ ∃ A G, RepC ct A G (fun _ => 0) sZ M' x ∧ (∀ a, G a ≠ 0 → (a = x ∨ M a = none) ∧ M' a ≠ none) ∧ (∀ a, a ≠ x → M a ≠ none → M' a = M a)) := by
  refine CM.of hl (by decide) (Nat.le_of_ble_eq_true rfl) ?_
  intro p e s m below meth c C hr hnm
  have loop : ∀ (d t : Nat) (A : Nat → Nat → Nat) (G : Nat → Nat) (Mt : Mem), 16 ≤ t + d → t ≤ 16 → CI ct M x t A G Mt → VV p l e (rmK 2 100 900) s m ([.ref x] : List Value).toArray below meth c 2 base D (MQ below (PQ base D (fun (v9 : Option Value) (M' : Mem) => v9 = none ∧ ∃ A G, RepC ct A G (fun _ => 0) sZ M' x ∧ (∀ a, G a ≠ 0 → (a = x ∨ M a = none) ∧ M' a ≠ none) ∧ (∀ a, a ≠ x → M a ≠ none → M' a = M a))) ([.ref x] : List Value).toArray s 100 900 (Ab base)) Mt (50 + 2 * t) (600 + 14 * t) 75 [(0, .ref x), (1, .int (nI t))] [] := by
    intro d
    induction d with
    | zero =>
      intro t A G Mt h1 h2 hI
      have htt : t = 16 := by omega
      refine V_iload_n C dX3_init_75 (by rfl) ?_
      refine V_bipush C (nI 16) dX3_init_76 (by decide) ?_
      refine V_icmp_ge C 100 dX3_init_78 (by decide) (fun h_78 => ?_) (fun h_78 => absurd h_78 (fun h => h ((nI_leI (by decide) (by omega)).mpr (by omega))))
      exact V_vretM C hr (show 50 + 2 * t ≤ 100 by omega) (show 600 + 14 * t ≤ 900 by omega) dX3_init_100 ⟨rfl, A, G, by rw [htt] at hI; exact hI.rep, hI.2.2.2.2.2.2.2.2.1, hI.2.2.2.2.2.2.2.2.2⟩
    | succ d ih =>
      intro t A G Mt h1 h2 hI
      rcases Nat.lt_or_ge t 16 with ht | ht
      · refine V_iload_n C dX3_init_75 (by rfl) ?_
        refine V_bipush C (nI 16) dX3_init_76 (by decide) ?_
        refine V_icmp_ge C 100 dX3_init_78 (by decide) (fun h_78 => absurd h_78 (fun h => absurd ((nI_leI (by decide) (by omega)).mp h) (by omega))) (fun h_78 => ?_)
        refine V_aload_n C dX3_init_81 (by rfl) ?_
        refine V_get C (ci := 3) hI.1 rfl wu_X3 3 (by decide) fl_X3_24 rfl (by rfl) dX3_init_82 ?_
        refine V_iload_n C dX3_init_85 (by rfl) ?_
        refine V_new C (ci := 1) (fs := [.int 0, .int 0, .int 0, .null, .null, .int 0]) rfl wu_X1 tyX1 tyX1_ok cl_X3_22 in_X1 ini_X1 (fun j hj => by rcases (show j = 0 ∨ j = 1 ∨ j = 2 ∨ j = 3 ∨ j = 4 ∨ j = 5 by omega) with rfl | rfl | rfl | rfl | rfl | rfl <;> rfl) (show 50 + 2 * t + 1 ≤ 100 by omega) (show 600 + 14 * t + 6 ≤ 900 by omega) dX3_init_86 (fun q fq => ?_)
        obtain ⟨sf, h2, h2b⟩ := hI.2.2.2.1
        refine V_dup C dX3_init_89 rfl ?_
        refine V_callIN C rfl (c_SaveInit l hl base D ct sa (mput_eq _ _ _)) (by decide) (Nat.le_of_ble_eq_true rfl) ⟨show 50 + 2 * t + 1 + 1 ≤ 100 by omega, show 600 + 14 * t + 6 + 8 ≤ 900 by omega⟩ dX3_init_90 (fun v9 M2 hv => ?_)
        obtain ⟨rfl, q1, f1, mq, m1, mo⟩ := hv
        obtain ⟨n1, f1⟩ := mput_none f1
        refine VV.eqv (st' := [.ref q, .int (nI t), .ref (A 2 0)]) rfl rfl ?_
        have n2q : A 2 0 ≠ q := some_ne h2 fq
        have n2q1 : A 2 0 ≠ q1 := some_ne h2 f1
        refine N_aastS C mq ((mo _ n2q n2q1).trans ((mput_ne n2q).trans h2)) ht (by decide) dX3_init_93 ?_
        obtain ⟨A', G', hI2, e2⟩ := hI.step (M' := mput M2 (A 2 0) (.inl (ct 3, 16, .inr (.inr (.inr (.inr (va_up sf t (some q)))))))) fq f1 n1.symm h2b (fun a a1 a2 a3 => by rw [mput_ne a3, mo a a1 a2, mput_ne a1]) (mput_eq _ _ _) ((mput_ne n2q.symm).trans mq) ((mput_ne n2q1.symm).trans m1)
        refine V_inc1 C dX3_init_94 (by rfl) (by decide) ?_
        refine V_goto C 75 dX3_init_97 (by decide) ?_
        refine VV.loc [(0, .ref x), (1, .int (nI (t + 1)))] ⟨rfl, (by rw [← nI_1]; rfl), trivial⟩ ?_
        refine VV.widen (k' := 50 + 2 * (t + 1)) (n' := 600 + 14 * (t + 1)) (show 50 + 2 * t + 1 + 1 ≤ _ by omega) (show 600 + 14 * t + 6 + 8 ≤ _ by omega) ?_
        exact ih (t + 1) A' G' _ (by omega) (by omega) hI2
      · exact ih t A G Mt (by omega) h2 hI
  refine V_aload_n C dX3_init_0 (by rfl) ?_
  refine V_objInit C ml_X3_1 im_oi co_oi dX3_init_1 (by decide) (by decide) ?_
  refine V_aload_n C dX3_init_4 (by rfl) ?_
  refine V_sipush C (nI 200) dX3_init_5 (by decide) ?_
  refine V_newT C 200 cl_X3_9 (by decide) (by decide) (by decide) (by decide) (by decide) dX3_init_8 (fun qT fT => ?_)
  have nT : x ≠ qT := some_ne hx0 fT
  refine V_putF C (ci := 3) ((mput_ne nT).trans hx0) rfl wu_X3 0 (by decide) fl_X3_11 rfl tyX3 tyX3_ok nmX3 rfl hnm rfl (by rfl) (by rfl) (Nat.le_of_ble_eq_true rfl) dX3_init_11 ?_
  refine V_aload_n C dX3_init_14 (by rfl) ?_
  refine V_iconst C (0) dX3_init_15 (by decide) ?_
  refine V_put C (ci := 3) (mput_eq _ _ _) rfl wu_X3 1 (by decide) fl_X3_15 rfl tyX3 tyX3_ok nmX3 rfl (by rfl) (by rfl) (Nat.le_of_ble_eq_true rfl) dX3_init_16 ?_
  refine V_aload_n C dX3_init_19 (by rfl) ?_
  refine V_iconst C (0) dX3_init_20 (by decide) ?_
  refine V_put C (ci := 3) (mput_eq _ _ _) rfl wu_X3 2 (by decide) fl_X3_19 rfl tyX3 tyX3_ok nmX3 rfl (by rfl) (by rfl) (Nat.le_of_ble_eq_true rfl) dX3_init_21 ?_
  refine V_aload_n C dX3_init_24 (by rfl) ?_
  refine V_bipush C (nI 16) dX3_init_25 (by decide) ?_
  refine V_newS C 16 cl_X3_22 (by decide) (by decide) (by decide) (by decide) (by decide) dX3_init_27 (fun qS fS => ?_)
  obtain ⟨nS, fS⟩ := mput_none fS
  obtain ⟨-, fS⟩ := mput_none fS
  obtain ⟨-, fS⟩ := mput_none fS
  obtain ⟨nST, fS⟩ := mput_none fS
  refine V_putF C (ci := 3) ((mput_ne nS.symm).trans (mput_eq _ _ _)) rfl wu_X3 3 (by decide) fl_X3_24 rfl tyX3 tyX3_ok nmX3 rfl hnm rfl (by rfl) (by rfl) (Nat.le_of_ble_eq_true rfl) dX3_init_30 ?_
  refine V_aload_n C dX3_init_33 (by rfl) ?_
  refine V_iconst C (0) dX3_init_34 (by decide) ?_
  refine V_put C (ci := 3) (mput_eq _ _ _) rfl wu_X3 4 (by decide) fl_X3_28 rfl tyX3 tyX3_ok nmX3 rfl (by rfl) (by rfl) (Nat.le_of_ble_eq_true rfl) dX3_init_35 ?_
  refine V_aload_n C dX3_init_38 (by rfl) ?_
  refine V_iconst C (0) dX3_init_39 (by decide) ?_
  refine V_put C (ci := 3) (mput_eq _ _ _) rfl wu_X3 5 (by decide) fl_X3_31 rfl tyX3 tyX3_ok nmX3 rfl (by rfl) (by rfl) (Nat.le_of_ble_eq_true rfl) dX3_init_40 ?_
  refine V_aload_n C dX3_init_43 (by rfl) ?_
  refine V_iconst C (0) dX3_init_44 (by decide) ?_
  refine V_put C (ci := 3) (mput_eq _ _ _) rfl wu_X3 6 (by decide) fl_X3_34 rfl tyX3 tyX3_ok nmX3 rfl (by rfl) (by rfl) (Nat.le_of_ble_eq_true rfl) dX3_init_45 ?_
  refine V_aload_n C dX3_init_48 (by rfl) ?_
  refine V_bipush C (nI 10) dX3_init_49 (by decide) ?_
  refine V_newI C 10 ac_int (by decide) (by decide) (by decide) (by decide) (by decide) dX3_init_51 (fun qP fP => ?_)
  obtain ⟨nP, fP⟩ := mput_none fP
  obtain ⟨-, fP⟩ := mput_none fP
  obtain ⟨-, fP⟩ := mput_none fP
  obtain ⟨-, fP⟩ := mput_none fP
  obtain ⟨nPS, fP⟩ := mput_none fP
  obtain ⟨-, fP⟩ := mput_none fP
  obtain ⟨-, fP⟩ := mput_none fP
  obtain ⟨-, fP⟩ := mput_none fP
  obtain ⟨nPT, fP⟩ := mput_none fP
  refine V_putF C (ci := 3) ((mput_ne nP.symm).trans (mput_eq _ _ _)) rfl wu_X3 7 (by decide) fl_X3_37 rfl tyX3 tyX3_ok nmX3 rfl hnm rfl (by rfl) (by rfl) (Nat.le_of_ble_eq_true rfl) dX3_init_53 ?_
  refine VV.eqv (M' := mput (mput (mput (mput M qT (.inl (ct 4, 200, .inr (.inr (.inr (.inr (fun _ => none))))))) qS (.inl (ct 3, 16, .inr (.inr (.inr (.inr (fun _ => none))))))) qP (ar0 ct 10)) x (.inr (3, [.ref qT, .int 0, .int 0, .ref qS, .int 0, .int 0, .int 0, .ref qP, .null, .int 0]))) (by
    funext a
    by_cases e1 : a = x
    · subst e1; simp only [mput_eq]; rfl
    · simp only [mput_ne e1]
      by_cases e2 : a = qP
      · subst e2; simp only [mput_eq]
      · simp only [mput_ne e2, mput_ne e1]
        by_cases e3 : a = qS
        · subst e3; simp only [mput_eq]
        · simp only [mput_ne e3, mput_ne e1]) rfl ?_
  refine V_aload_n C dX3_init_56 (by rfl) ?_
  refine V_bipush C (nI 30) dX3_init_57 (by decide) ?_
  refine V_bipush C (nI 8) dX3_init_59 (by decide) ?_
  refine V_mna C cl_X3_41 (by decide) (by decide) dX3_init_61 (fun qU r fU fr hinj => ?_)
  have out : ∀ a, mput (mput (mput (mput M qT (.inl (ct 4, 200, .inr (.inr (.inr (.inr (fun _ => none))))))) qS (.inl (ct 3, 16, .inr (.inr (.inr (.inr (fun _ => none))))))) qP (ar0 ct 10)) x (.inr (3, [.ref qT, .int 0, .int 0, .ref qS, .int 0, .int 0, .int 0, .ref qP, .null, .int 0])) a = none → a ≠ x ∧ a ≠ qP ∧ a ≠ qS ∧ a ≠ qT ∧ M a = none := by
    intro a h
    obtain ⟨z1, h⟩ := mput_none h
    obtain ⟨z2, h⟩ := mput_none h
    obtain ⟨z3, h⟩ := mput_none h
    obtain ⟨z4, h⟩ := mput_none h
    exact ⟨z1, z2, z3, z4, h⟩
  obtain ⟨u1, u2, u3, u4, u5⟩ := out qU fU
  have o1 := fun i hi => out (r i) (fr i hi).1
  obtain ⟨G0, hg0, hg1⟩ := tag5 30 r hinj
  have hx5 : mput (mrows (mput (mput (mput (mput M qT (.inl (ct 4, 200, .inr (.inr (.inr (.inr (fun _ => none))))))) qS (.inl (ct 3, 16, .inr (.inr (.inr (.inr (fun _ => none))))))) qP (ar0 ct 10)) x (.inr (3, [.ref qT, .int 0, .int 0, .ref qS, .int 0, .int 0, .int 0, .ref qP, .null, .int 0]))) ((List.range 30).map r) (ar0 ct 8)) qU (.inl (ct 5, 30, .inr (.inr (.inr (.inr (fun i => if i < 30 then some (r i) else none)))))) x = some (.inr (3, [.ref qT, .int 0, .int 0, .ref qS, .int 0, .int 0, .int 0, .ref qP, .null, .int 0])) := by
    rw [mput_ne u1.symm, mrows_ne (fun i hi => (o1 i hi).1), mput_eq]
  refine V_putF C (ci := 3) hx5 rfl wu_X3 8 (by decide) fl_X3_43 rfl tyX3 tyX3_ok nmX3 rfl hnm rfl (by rfl) (by rfl) (Nat.le_of_ble_eq_true rfl) dX3_init_65 ?_
  refine V_aload_n C dX3_init_68 (by rfl) ?_
  refine V_iconst C (0) dX3_init_69 (by decide) ?_
  refine V_put C (ci := 3) (mput_eq _ _ _) rfl wu_X3 9 (by decide) fl_X3_46 rfl tyX3 tyX3_ok nmX3 rfl (by rfl) (by rfl) (Nat.le_of_ble_eq_true rfl) dX3_init_70 ?_
  refine V_iconst C (0) dX3_init_73 (by decide) ?_
  refine V_istore_n C dX3_init_74 (by decide) ?_
  refine VV.loc [(0, .ref x), (1, .int (nI 0))] ⟨rfl, rfl, trivial⟩ ?_
  refine VV.widen (k' := 50 + 2 * 0) (n' := 600 + 14 * 0) (by decide) (by decide) ?_
  refine loop 16 0 (fun q i => if q = 1 then qT else if q = 2 then qS else if q = 3 then qP else if q = 4 then qU else if q = 5 then r i else 0) (va_up (va_up (va_up (va_up (va_up G0 x 13) qT 1) qS 2) qP 3) qU 4) _ (by omega) (Nat.zero_le _) ?_
  have gr : ∀ i, i < 30 → va_up (va_up (va_up (va_up (va_up G0 x 13) qT 1) qS 2) qP 3) qU 4 (r i) = 16 * i + 5 := fun i hi => by
    obtain ⟨z1, z2, z3, z4, -⟩ := o1 i hi
    rw [va_up_ne _ _ (fr i hi).2, va_up_ne _ _ z2, va_up_ne _ _ z3, va_up_ne _ _ z4, va_up_ne _ _ z1]; exact hg0 i hi
  have ra : ∀ i, i < 30 → r i ≠ qT ∧ r i ≠ qS ∧ r i ≠ qP ∧ r i ≠ x ∧ r i ≠ qU := fun i hi => ⟨(o1 i hi).2.2.2.1, (o1 i hi).2.2.1, (o1 i hi).2.1, (o1 i hi).1, (fr i hi).2⟩
  refine ⟨mput_eq _ _ _, ⟨?_, fun k h1 h2 => ?_, gr, fun k h => absurd h (by omega)⟩, ⟨(fun _ => none), ?_⟩, ⟨(fun _ => none), ?_, fun k h => absurd h (by omega)⟩, ?_, ⟨(fun i => if i < 30 then some (r i) else none), ?_, fun k hk => if_pos hk⟩, fun k hk => ?_, fun k h => absurd h (by omega), fun a ha => ?_, fun a h1 h2 => ?_⟩
  · rw [va_up_ne _ _ u1.symm, va_up_ne _ _ nP.symm, va_up_ne _ _ nS.symm, va_up_ne _ _ nT, va_up_self]
  · rcases (show k = 1 ∨ k = 2 ∨ k = 3 ∨ k = 4 by omega) with rfl | rfl | rfl | rfl
    · show va_up (va_up (va_up (va_up (va_up G0 x 13) qT 1) qS 2) qP 3) qU 4 qT = 1
      rw [va_up_ne _ _ u4.symm, va_up_ne _ _ nPT.symm, va_up_ne _ _ nST.symm, va_up_self]
    · show va_up (va_up (va_up (va_up (va_up G0 x 13) qT 1) qS 2) qP 3) qU 4 qS = 2
      rw [va_up_ne _ _ u3.symm, va_up_ne _ _ nPS.symm, va_up_self]
    · show va_up (va_up (va_up (va_up (va_up G0 x 13) qT 1) qS 2) qP 3) qU 4 qP = 3
      rw [va_up_ne _ _ u2.symm, va_up_self]
    · show va_up (va_up (va_up (va_up (va_up G0 x 13) qT 1) qS 2) qP 3) qU 4 qU = 4
      rw [va_up_self]
  · show mput _ x _ qT = _
    rw [mput_ne nT.symm, mput_ne nT.symm, mput_ne u4.symm, mrows_ne (fun i hi => (ra i hi).1), mput_ne nT.symm, mput_ne nPT.symm, mput_ne nST.symm, mput_eq]
  · show mput _ x _ qS = _
    rw [mput_ne nS, mput_ne nS, mput_ne u3.symm, mrows_ne (fun i hi => (ra i hi).2.1), mput_ne nS, mput_ne nPS.symm, mput_eq]
  · show mput _ x _ qP = _
    rw [mput_ne nP, mput_ne nP, mput_ne u2.symm, mrows_ne (fun i hi => (ra i hi).2.2.1), mput_ne nP, mput_eq]
  · show mput _ x _ qU = _
    rw [mput_ne u1, mput_ne u1, mput_eq]
  · show mput _ x _ (r k) = _
    rw [mput_ne (ra k hk).2.2.2.1, mput_ne (ra k hk).2.2.2.1, mput_ne (ra k hk).2.2.2.2, mrows_in hk]
  · by_cases e1 : a = x
    · exact ⟨Or.inl e1, by rw [e1, mput_eq]; exact Option.some_ne_none _⟩
    · by_cases e2 : a = qU
      · refine ⟨Or.inr (by rw [e2]; exact u5), ?_⟩
        rw [e2, mput_ne u1, mput_ne u1, mput_eq]; exact Option.some_ne_none _
      · by_cases e3 : ∃ i, i < 30 ∧ r i = a
        · obtain ⟨i, hi, rfl⟩ := e3
          refine ⟨Or.inr (o1 i hi).2.2.2.2, ?_⟩
          rw [mput_ne e1, mput_ne e1, mput_ne e2, mrows_in hi]; exact Option.some_ne_none _
        · have e3' : ∀ i, i < 30 → r i ≠ a := fun i hi e => e3 ⟨i, hi, e⟩
          rw [mput_ne e1, mput_ne e1, mput_ne e2, mrows_ne e3', mput_ne e1]
          by_cases e4 : a = qP
          · refine ⟨Or.inr (by rw [e4]; exact fP), by rw [e4, mput_eq]; exact Option.some_ne_none _⟩
          · rw [mput_ne e4]
            by_cases e5 : a = qS
            · refine ⟨Or.inr (by rw [e5]; exact fS), by rw [e5, mput_eq]; exact Option.some_ne_none _⟩
            · rw [mput_ne e5]
              by_cases e6 : a = qT
              · refine ⟨Or.inr (by rw [e6]; exact fT), by rw [e6, mput_eq]; exact Option.some_ne_none _⟩
              · rw [va_up_ne _ _ e2, va_up_ne _ _ e4, va_up_ne _ _ e5, va_up_ne _ _ e6, va_up_ne _ _ e1, hg1 a e3'] at ha
                exact absurd rfl ha
  · have q1 : ∀ b, M b = none → a ≠ b := fun b hb e => h2 (by rw [e]; exact hb)
    rw [mput_ne h1, mput_ne h1, mput_ne (q1 _ u5), mrows_ne (fun i hi e => q1 _ (o1 i hi).2.2.2.2 e.symm), mput_ne h1, mput_ne (q1 _ fP), mput_ne (q1 _ fS), mput_ne (q1 _ fT)]
