/-! THE LAW: its entry; the claim -/
theorem LW_0 {ct : Nat → ClassId} {A : Nat → Nat → Nat} {G B Gm : Nat → Nat} {M1 M2 : Mem} {x mo out : Nat} {e1 : va_E} (hC : RepC ct A G (fun _ => 0) sZ M1 x) (hG : ∀ a, G a ≠ 0 → M1 a ≠ none) (fmo : M1 mo = none) (hR : RepM ct B Gm sZ 0 M2 mo) (hGm : ∀ a, Gm a ≠ 0 → a = mo ∨ mput M1 mo e1 a = none) (hF : ∀ a, a ≠ mo → mput M1 mo e1 a ≠ none → M2 a = mput M1 mo e1 a) (fo : M2 out = none) : LW ct x mo out sZ (mput M2 out (.inl (ct 2, 1, .inr (.inl (fun _ => 0))))) := by
  have n1 : ∀ a, G a ≠ 0 → a ≠ mo := fun a ha e => hG a ha (by rw [e]; exact fmo)
  have m2 : ∀ a, G a ≠ 0 → M2 a = M1 a := fun a ha => by
    rw [hF a (n1 a ha) (by rw [mput_ne (n1 a ha)]; exact hG a ha), mput_ne (n1 a ha)]
  have n2 : ∀ a, G a ≠ 0 → a ≠ out := fun a ha e => hG a ha (by rw [← m2 a ha, e]; exact fo)
  have n3 : ∀ a, Gm a ≠ 0 → a ≠ out := fun a ha e => hR.2.1.2 a ha (by rw [e]; exact fo)
  refine ⟨A, G, fun _ => 0, B, Gm, 0, _, hC.same inv_zero (fun a ha => by rw [mput_ne (n2 a ha)]; exact m2 a ha), hR.same (fun a ha => mput_ne (n3 a ha)), mput_eq _ _ _, ?_, ?_, fun a ha => ?_⟩
  · rcases Nat.eq_zero_or_pos (G out) with q | q
    · exact q
    · exact absurd rfl (n2 out (by omega))
  · rcases Nat.eq_zero_or_pos (Gm out) with q | q
    · exact q
    · exact absurd rfl (n3 out (by omega))
  · rcases Nat.eq_zero_or_pos (Gm a) with q | q
    · exact q
    · rcases hGm a (by omega) with w | w
      · exact absurd w (n1 a ha)
      · exact absurd (mput_none w).2 (hG a ha)
theorem Wd.empty {base : Nat} {D : va_G} {H : Heap} : Wd base D (fun _ => none) H := ⟨[], fun _ => .inr (0, []), fun a e h => (by cases h), fun k q h => (by cases h), ⟨fun i j p q h => (by cases h), fun k q h => (by cases h)⟩⟩
set_option maxHeartbeats 4000000 in
set_option maxRecDepth 100000 in
theorem whole_start {p : Program} {e : Env} {s : State} {m : MethodId} {below : List Frame} {meth : Method} {c : Code} (l : Launch) (hl : l.stackTraces = false) {b L : Nat} {xs : Nat → Int32} (hL : L ≤ 2048) (C0 : lw_At p s m meth c b L xs) : W p l e room_1 s m #[Value.ref b] below meth c s.heap [] 0 0 (lw_Z below #[Value.ref b] s) (entryFrame m ([Value.ref b] : List Value).toArray 7) := by
  obtain ⟨hx, hb, hr, hml, hown, hts, hX, hbl, hlocks, hgv⟩ := C0
  obtain ⟨D, ct, sa, hE⟩ := env_start hts hgv
  have C : Cx p l s m ([.ref b] : List Value).toArray meth c cL_law 7 RL s.heap.size D ct sa := ⟨hx, hb, hml, hown, fun w hw => hts w (tbl_WL w hw), hE, hlocks, hl⟩
  have K : VL p l e s m below meth c s.heap.size D b (fun _ => none) 0 0 0 (lv_args 0 [.ref b]) [] := by
    refine V_new C (ci := 3) (fs := [.null, .int 0, .int 0, .null, .int 0, .int 0, .int 0, .null, .null, .int 0]) rfl wu_X3 tyX3 tyX3_ok cl_L_8 in_X3 ini_X3 (fun j hj => by rcases (show j = 0 ∨ j = 1 ∨ j = 2 ∨ j = 3 ∨ j = 4 ∨ j = 5 ∨ j = 6 ∨ j = 7 ∨ j = 8 ∨ j = 9 by omega) with rfl | rfl | rfl | rfl | rfl | rfl | rfl | rfl | rfl | rfl <;> rfl) (by decide) (by decide) dL_law_0 (fun x fx => ?_)
    refine V_dup C dL_law_3 rfl ?_
    refine V_callI C (As := []) (c_SRInit l hl s.heap.size D ct sa (mput_eq _ _ _)) w_L_49 rfl (by decide) (Nat.le_of_ble_eq_true rfl) ⟨by decide, by decide⟩ dL_law_4 (fun v M1 h => ?_)
    obtain ⟨rfl, A, G, hC, hG, -⟩ := h
    refine VV.eqv (st' := [.ref x]) rfl rfl ?_
    refine V_astore_n C dL_law_7 (by decide) ?_
    refine V_new C (ci := 4) (fs := [.int 0, .int 0, .int 0, .null, .null, .null, .null, .null, .int 0, .int 0, .int 0, .null, .null, .null, .null, .null, .int 0, .null, .null, .int 0, .null]) rfl wu_X4 tyX4 tyX4_ok cl_L_50 in_X4 ini_X4 (fun j hj => by rcases (show j = 0 ∨ j = 1 ∨ j = 2 ∨ j = 3 ∨ j = 4 ∨ j = 5 ∨ j = 6 ∨ j = 7 ∨ j = 8 ∨ j = 9 ∨ j = 10 ∨ j = 11 ∨ j = 12 ∨ j = 13 ∨ j = 14 ∨ j = 15 ∨ j = 16 ∨ j = 17 ∨ j = 18 ∨ j = 19 ∨ j = 20 by omega) with rfl | rfl | rfl | rfl | rfl | rfl | rfl | rfl | rfl | rfl | rfl | rfl | rfl | rfl | rfl | rfl | rfl | rfl | rfl | rfl | rfl <;> rfl) (by decide) (by decide) dL_law_8 (fun mo fmo => ?_)
    refine V_dup C dL_law_11 rfl ?_
    refine V_callI C (As := []) (m_init l hl s.heap.size D ct sa (mput_eq _ _ _)) w_L_52 rfl (by decide) (Nat.le_of_ble_eq_true rfl) ⟨by decide, by decide⟩ dL_law_12 (fun v M2 h => ?_)
    obtain ⟨rfl, B, Gm, hR, hGm, hF⟩ := h
    refine VV.eqv (st' := [.ref mo]) rfl rfl ?_
    refine V_astore_n C dL_law_15 (by decide) ?_
    refine V_iconst C (nI 1) dL_law_16 (by decide) ?_
    refine V_newJ C 1 ac_long (by decide) (by decide) (by decide) (by decide) (by decide) dL_law_17 (fun out fo => ?_)
    refine V_astore_n C dL_law_19 (by decide) ?_
    refine V_iconst C (nI 0) dL_law_20 (by decide) ?_
    refine V_istore C dL_law_21 (by decide) ?_
    refine VV.loc (LL b x mo out 0) ⟨rfl, rfl, rfl, rfl, rfl, trivial⟩ ?_
    refine VV.widen (k' := 200 + 5 * 0) (n' := 14000 + 32 * 0) (by decide) (by decide) ?_
    exact law_loop hl C rfl hr hX hbl hL (L + 1) 0 sZ _ (by omega) (by omega) inv_zero (LW_0 hC (fun a ha => (hG a ha).2) fmo hR hGm hF fo)
  have hl9 := lv_entry ([.ref b] : List Value) (n := 7) (Nat.le_of_ble_eq_true rfl)
  rw [lg_entry_eq]
  exact K s.heap [] _ Wd.empty va_S.rf hl9
set_option maxHeartbeats 4000000 in
theorem lw_walk (l : Launch) (hl : l.stackTraces = false) (b : Addr) (xs : List Int32) : MetFree l x (headSpec (Jvm.Cond.code x code maxLocals ret :: tables_1) room_1) (lw_P b xs) (fun _ _ _ _ _ => True) lw_Q := by
  refine MetFree.of_bodyS (code := code) (maxLocals := maxLocals) (ret := ret) (by decide) ?_ ?_
  · intro args s m h hn
    obtain ⟨meth, c, h1, h2, h3, h4, h5, h6, -, -⟩ := Cond.code_spec hn (atoms_spec (ws := Jvm.Cond.code x code maxLocals ret :: tables_1) h _ List.mem_cons_self)
    exact ⟨meth, c, h1, h2, h3, h4, h5, h6⟩
  · intro p e s m args below meth c s₁ B hml0 hP _
    obtain ⟨rfl, hx, hbd, hgv⟩ := hP
    obtain ⟨scr, harrAt, hlist, hof, hsmall⟩ := hx
    obtain ⟨hcb, hkn, -, -⟩ := State.arrayAt?_spec harrAt
    have hown : s.vm.findClass R_law = some m.cls := findClass_of_methodNamed B.named
    have hts0 : ∀ c ∈ (Jvm.Cond.code x code maxLocals ret :: tables_1), c.before #[Value.ref b] s = true := atoms_spec (ws := Jvm.Cond.code x code maxLocals ret :: tables_1) B.pre
    have hts : ∀ w ∈ lw_tbl, w.before #[Value.ref b] s = true := k2_hts_sels lw_privs (fun w hw => hts0 w (List.mem_cons_of_mem _ hw)) lw_privs_ok
    have hml : c.maxLocals = 7 := B.maxLocals_eq (hts0 _ List.mem_cons_self)
    have X₀ : Stand p l e room_1 s m #[Value.ref b] below meth c s₁ [] 0 0 := Stand.of_body B
    have hh0 : s₁.heap = s.heap := by rw [B.state]; rfl
    have hsz : scr.slots.size = xs.length := by rw [← Array.length_toList, hlist, List.length_map]
    have hval : ∀ j : Nat, j < xs.length → scr.slots[j]? = some (.int (xs.getD j 0)) := fun j hj => by
      rw [← Array.getElem?_toList, hlist]
      simp [hj]
    have hbl : b < s.heap.size := (Array.getElem?_eq_some_iff.mp hcb).1
    have hX : va_X b xs.length (fun j => xs.getD j 0) s s.heap := ⟨scr, hcb, hof, hkn, hsz, hval⟩
    have K : W p l e room_1 s m #[Value.ref b] below meth c s₁.heap [] 0 0 (lw_Z below #[Value.ref b] s) (entryFrame m ([Value.ref b] : List Value).toArray 7) := by
      rw [hh0]
      exact whole_start l hl hbd ⟨B.exec, B.bytes, B.returns, hml, hown, hts, hX, hbl, B.notSynchronized, hgv⟩
    obtain ⟨t, a1, o, b1, b2, b3⟩ := K s₁ rfl X₀
    exact ⟨t, o, a1, b1, b2, b3⟩
theorem lw_pre_spec {args : Array Value} {s : State} (h : (Jvm.Cond.and given_1 narrow_1).before args s = true) (hr : rest_1_c.before args s = true) : ∃ (b : Addr) (xs : List Int32), lw_P b xs args s := by
  have hs := flat_of_before _ h
  have hq := flat_of_before _ hr
  have hc : (Cond.count 1).before args s = true := hs _ (by decide +kernel)
  have harr : (Cond.arrayOf (.arg 0) .int).before args s = true := hs _ (by decide +kernel)
  have hle : (Cond.le (.length (.arg 0)) (.int 2048)).before args s = true := hs _ (by decide +kernel)
  have hlen : (Cond.isInt (.length (.arg 0))).before args s = true := hq _ (by decide +kernel)
  have hall : (Cond.all (.arg 0) (.isInt (.elem (.arg 0) (.index 0)))).before args s = true := hq _ (by decide +kernel)
  obtain ⟨b, xs, hb, hx⟩ := State.ints_of_pre rfl harr hlen hall
  have hsm : xs.length < 2 ^ 31 := hx.choose_spec.2.2.2
  have hev : (Term.length (.arg 0)).eval args s none [] s = some (.int xs.length.toInt32) := hx.length_eval hb
  have hv := Cond.le_ints hev (show (Term.int 2048).eval args s none [] s = some (.int 2048) from rfl)
  have hd : xs.length.toInt32 ≤ 2048 := by
    simpa [Cond.before, Cond.holds, hv] using hle
  have hN : xs.length ≤ 2048 := (Int32.ofNat_le_ofNat hsm (by decide)).mp (show Int32.ofNat xs.length ≤ Int32.ofNat 2048 from hd)
  exact ⟨b, xs, Cond.one_arg hc (show args[0]? = some (.ref b) from hb), hx, hN, h⟩
theorem lw_comes (l : Launch) (hl : l.stackTraces = false) : Comes l x (Jvm.Cond.code x code maxLocals ret :: tables_1) room_1 (fun tb e args s => Calls_1 tb e args s ∧ rest_1 tb e args s ∧ Pre_1 tb e args s)
    (fun _ _ args s o t => lw_Q args s o t) := by
  intro p e ha hc hk s m args below hf hfit hheap happ hpre
  obtain ⟨b, xs, hP⟩ := lw_pre_spec hpre.2.2 hpre.2.1
  obtain ⟨k, o, h1, h2, h3, hQ⟩ := lw_walk l hl b xs p e ha hc hk s m args below hf ((Spec.applies_iff_loose hf).mp happ).1 hP trivial
  exact ⟨k, o, h1, h2, h3, hQ⟩
theorem lw_frame {s t : State} {o : Outcome} {args : Array Value} (h : Framed s o t [] 601024 7293034) :
    Framed s o t (fieldLocs frame_1_writes args s ++ arrayLocs frame_1_arrays args s ++ staticLocs frame_1_statics s) 601024 7293034 := h
theorem lw_limb (L : Cond) (hL : ∀ (args : Array Value) (s t : State), L.after args s (.returned (some (.int 1))) t = true) :
    ArmFor flags0 classFile x code maxLocals ret World_1 tables_1 room_1 Calls_1 rest_1 Pre_1
      (fun tb e a s o t => postC L tb e a s o t ∧ Framed s o t (fieldLocs frame_1_writes a s ++ arrayLocs frame_1_arrays a s ++ staticLocs frame_1_statics s) 601024 7293034) := by
  intro l hfl _ _ p e ha hc hk s m args below hf hfit hheap happ hpre
  have hl : l.stackTraces = false := by
    unfold Launch.stackTraces; rw [hfl]; decide
  obtain ⟨k, o, h1, h2, h3, rfl, hF⟩ := lw_comes l hl p e ha hc hk s m args below hf hfit hheap happ hpre
  exact ⟨k, _, h1, h2, h3, hL args s _, lw_frame hF⟩
theorem i_vc : Claimed_1_1 ∧ Claimed_1_2 := ⟨lw_limb limb_1_1 (fun args s t => by simp [limb_1_1, Cond.after, Cond.holds, Cond.value]), lw_limb limb_1_2 (fun args s t => Cond.after_iff.mpr (by
  first | (rw [show limb_1_2 = Cond.eq .result (.int 1) from rfl, Cond.eq_ints (x := 1) (y := 1) rfl rfl]; simp; done) | (simp [limb_1_2, Cond.value, Term.eval]; done)))⟩
