/-! THE CLAIM OUT OF ONE WALK OF THE LAW'S BODY. Your part is whole_start (and what it stands on); all else here is the same for every law, but numbers. -/
def R_law : String := "SaveRestoreLaw"
def lw_P (b : Addr) (xs : List Int32) (args : Array Value) (s : State) : Prop := args = #[.ref b] ∧ s.IntsAt b xs ∧ xs.length ≤ 2048 ∧ (Jvm.Cond.and given_1 narrow_1).before args s = true
def lw_Q (_ : Array Value) (s : State) (o : Outcome) (t : State) : Prop := o = .returned (some (.int 1)) ∧ Framed s o t [] 601024 7293034
def lw_Z (below : List Frame) (a : Array Value) (s : State) : State → Prop := fun t => ∃ o, t.status = .running ∧ Ended t below o ∧ lw_Q a s o t
/-- the law's own end, with 1 on the stack, nothing written that was there before, its room as the claim has it -/
theorem lw_ret {p : Program} {l : Launch} {e : Env} {s : State} {m : MethodId} {below : List Frame} {meth : Method} {c : Code} {b : Nat} (hx : p.tables.exec = Jvm.exec) (hb : c.code = code) (hr : meth.sig.returnType = ret) (hlocks : meth.locks = false) {pc : Nat} {H : Heap} {ls : Array Slot} (hdg : decode code pc = .ok (.ireturn, 1)) : W p l e room_1 s m #[Value.ref b] below meth c H [] 601024 7293034 (lw_Z below #[Value.ref b] s) (F0 m pc ls [.int 1]) := by
  intro T hT X
  obtain ⟨fs, hret, hrun, hended, hW, hframe⟩ := X.leave (v := some (.int 1)) (hlocks := hlocks) (fun h => by rw [hr] at h; cases h)
  have hmeth' : T.vm.method? m = some meth := X.method'
  refine ⟨T.setFrames fs, ?_, .returned (some (.int 1)), hrun, hended, rfl, ⟨_, rfl⟩, hW, hframe⟩
  jvm_step X.here [X.here.top, hx, hb, hdg, hmeth', hr, ret, narrow_b1]
  (try refine ⟨rfl, ?_⟩); (try refine ⟨rfl, ?_⟩)
  first | (intro acts; rw [hret _ acts rfl rfl rfl]) | rw [hret _ _ rfl rfl rfl]
  exact Steps.refl _
/-- what holds at the law's entry: the machine, the code, the tables' words (any of lw_tbl by 'hts w (by decide +kernel)'), the script of L ints xs at the cell b, what the Statement gives of the start (any of its parts by flat_of_before) -/
def lw_At (p : Program) (s : State) (m : MethodId) (meth : Method) (c : Code) (b L : Nat) (xs : Nat → Int32) : Prop :=
  p.tables.exec = Jvm.exec ∧ c.code = code ∧ meth.sig.returnType = ret ∧ c.maxLocals = 7 ∧ s.vm.findClass R_law = some m.cls ∧ (∀ w ∈ lw_tbl, w.before #[Value.ref b] s = true) ∧ va_X b L xs s s.heap ∧ b < s.heap.size ∧ meth.locks = false ∧ (Jvm.Cond.and given_1 narrow_1).before #[Value.ref b] s = true
/-! the law's cases, call by call -/
/-- class and reference hold the same state -/
def LW (ct : Nat → ClassId) (x mo out : Nat) (σ : Sg) (M : Mem) : Prop := ∃ (A : Nat → Nat → Nat) (G ob B Gm : Nat → Nat) (th : Int32) (f : Nat → Int64), RepC ct A G ob σ M x ∧ RepM ct B Gm σ th M mo ∧ M out = some (.inl (ct 2, 1, .inr (.inl f))) ∧ G out = 0 ∧ Gm out = 0 ∧ ∀ a, G a ≠ 0 → Gm a = 0
theorem LW_c {ct : Nat → ClassId} {G B Gm : Nat → Nat} {σ σ' : Sg} {th : Int32} {M M1 : Mem} {x mo out : Nat} {f : Nat → Int64} (hR : RepM ct B Gm σ th M mo) (ho : M out = some (.inl (ct 2, 1, .inr (.inl f)))) (hg : G out = 0) (hgm : Gm out = 0) (hd : ∀ a, G a ≠ 0 → Gm a = 0)
    (hH : ∃ (A' : Nat → Nat → Nat) (G' ob' : Nat → Nat), RepC ct A' G' ob' σ' M1 x ∧ (∀ a, G' a ≠ 0 → G a ≠ 0 ∨ M a = none)) (hF : ∀ a, a ≠ out → G a = 0 → M a ≠ none → M1 a = M a) :
    RepM ct B Gm σ th M1 mo ∧ ∃ (A' : Nat → Nat → Nat) (G' ob' : Nat → Nat), RepC ct A' G' ob' σ' M1 x ∧ G' out = 0 ∧ ∀ a, G' a ≠ 0 → Gm a = 0 := by
  obtain ⟨A', G', ob', hC, h1⟩ := hH
  have hn : M out ≠ none := by rw [ho]; exact fun h => by cases h
  refine ⟨hR.same (fun a ha => hF a (fun e => ha (by rw [e]; exact hgm)) ?_ (hR.2.1.2 a ha)), A', G', ob', hC, ?_, fun a ha => ?_⟩
  · rcases Nat.eq_zero_or_pos (G a) with q | q
    · exact q
    · exact absurd (hd a (by omega)) ha
  · rcases Nat.eq_zero_or_pos (G' out) with q | q
    · exact q
    · rcases h1 out (by omega) with w | w
      · exact absurd hg w
      · exact absurd w hn
  · rcases Nat.eq_zero_or_pos (Gm a) with q | q
    · exact q
    · rcases h1 a ha with w | w
      · exact hd a w
      · exact absurd w (hR.2.1.2 a (by omega))
theorem LW_m {ct : Nat → ClassId} {A : Nat → Nat → Nat} {G ob B Gm : Nat → Nat} {σ : Sg} {th : Int32} {M M2 : Mem} {x mo out K : Nat} {f : Nat → Int64} (hC : RepC ct A G ob σ M x) (hI : Inv K σ) (ho : M out = some (.inl (ct 2, 1, .inr (.inl f)))) (hg : G out = 0) (hgm : Gm out = 0) (hd : ∀ a, G a ≠ 0 → Gm a = 0) (hH : HM ct B Gm M σ th M2 mo) :
    LW ct x mo out σ M2 ∧ M2 out = some (.inl (ct 2, 1, .inr (.inl f))) := by
  have h2 : M2 out = some (.inl (ct 2, 1, .inr (.inl f))) := by rw [hH.2 out hgm]; exact ho
  exact ⟨⟨A, G, ob, B, Gm, th, f, hC.same hI (fun a ha => hH.2 a (hd a ha)), hH.1, h2, hg, hgm, hd⟩, h2⟩
theorem postC_h {ct : Nat → ClassId} {G : Nat → Nat} {M M1 : Mem} {x out : Nat} {r : Nat × Int32 × Sg} {v : Option Value} (h : PostC ct G M x r v M1) : (∃ (A' : Nat → Nat → Nat) (G' ob' : Nat → Nat), RepC ct A' G' ob' r.2.2 M1 x ∧ (∀ a, G' a ≠ 0 → G a ≠ 0 ∨ M a = none)) ∧ (∀ a, a ≠ out → G a = 0 → M a ≠ none → M1 a = M a) := by
  obtain ⟨-, -, A', G', ob', hC, hF⟩ := h
  exact ⟨⟨A', G', ob', hC, hF.1⟩, fun a _ h1 h2 => hF.2 a h1 h2⟩
theorem c0_1 {r : Nat × Int32 × Sg} {σ : Sg} (h : er1 r σ) (h0 : nI r.1 = 0) : r.1 = 0 := Nat.eq_zero_of_not_pos (fun hp => nI_ne0 hp (by rw [(h hp).2]; decide) h0)
theorem c0_2 {r : Nat × Int32 × Sg} {σ : Sg} (h : er2 r σ) (h0 : nI r.1 = 0) : r.1 = 0 := Nat.eq_zero_of_not_pos (fun hp => nI_ne0 hp (by rcases (h hp).2 with e | e <;> rw [e] <;> decide) h0)
theorem c0_3 {r : Nat × Int32 × Sg} {σ : Sg} (h : er3 r σ) (h0 : nI r.1 = 0) : r.1 = 0 := Nat.eq_zero_of_not_pos (fun hp => nI_ne0 hp (by rcases (h hp).2 with e | e | e <;> rw [e] <;> decide) h0)
theorem lg_self (x : Int64) : lg_cmp x x = 0 := by
  unfold lg_cmp
  rw [if_neg (by simp), if_pos rfl]
abbrev VL (p : Program) (l : Launch) (e : Env) (s : State) (m : MethodId) (below : List Frame) (meth : Method) (c : Code) (base : Nat) (D : va_G) (b : Nat) (M : Mem) (k n pc : Nat) (lv : List (Nat × Value)) (st : List Value) : Prop := VV p l e room_1 s m ([.ref b] : List Value).toArray below meth c 7 base D (lw_Z below #[Value.ref b] s) M k n pc lv st
abbrev LL (b x mo out t : Nat) : List (Nat × Value) := [(0, .ref b), (1, .ref x), (2, .ref mo), (3, .ref out), (4, .int (nI (4 * t)))]
set_option maxHeartbeats 4000000 in
set_option maxRecDepth 100000 in
theorem law_object {p : Program} {l : Launch} {e : Env} {s : State} {m : MethodId} {below : List Frame} {meth : Method} {c : Code} {b L : Nat} {xs : Nat → Int32} {base : Nat} {D : va_G} {ct : Nat → ClassId} {sa : Nat → Nat} {x mo out t : Nat} {σ : Sg} {M : Mem} (hl : l.stackTraces = false) (C : Cx p l s m ([.ref b] : List Value).toArray meth c cL_law 7 RL base D ct sa) (hX : va_X b L xs s s.heap) (hbl : b < s.heap.size) (hbb : b < base) (hL : L ≤ 2048) (ht : 4 * t + 4 ≤ L) (hI : Inv t σ) (hLW : LW ct x mo out σ M)
    (next : ∀ (σ' : Sg) (M' : Mem) (k n : Nat), LW ct x mo out σ' M' → Inv (t + 1) σ' → k ≤ 205 + 5 * t → n ≤ 14032 + 32 * t → VL p l e s m below meth c base D b M' k n 736 (LL b x mo out t) []) : VL p l e s m below meth c base D b M (200 + 5 * t) (14000 + 32 * t) 104 (LL b x mo out t) [] := by
  obtain ⟨A, G, ob, B, Gm, th, f, hC, hR, ho, hg, hgm, hd⟩ := hLW
  rcases Decidable.em (xs (4 * t + 1) = 0) with h0 | h0
  · have hg9 : (0 : Int32) = 0 ∨ (0 : Int32) = 1 := Or.inl rfl
    refine V_aload_n C dL_law_104 (by rfl) ?_
    refine V_aload_n C dL_law_105 (by rfl) ?_
    refine V_iload C dL_law_106 (by rfl) ?_
    refine V_iconst C (nI 1) dL_law_108 (by decide) ?_
    refine V_iadd C dL_law_109 ?_
    refine V_top (nI_add _ _) ?_
    refine V_sld C hX hbl hbb (j := 4 * t + 1) (by omega) (by omega) dL_law_110 ?_
    refine V_if_eq C 118 dL_law_111 (by decide) (fun h_111 => ?_) (fun h_111 => absurd h_111 (fun h => h h0))
    refine V_iconst C (0) dL_law_118 (by decide) ?_
    refine V_aload_n C dL_law_119 (by rfl) ?_
    refine V_callSH C (As := [.ref x, .int (0 : Int32), .ref out]) (h_object l hl base D ct sa hC hI (by omega) ho hg (0 : Int32) hg9 (iv_object hI (0 : Int32))) wh_object rfl (by decide) (Nat.le_of_ble_eq_true rfl) ⟨show 200 + 5 * t + 4 ≤ 601024 by omega, show 14000 + 32 * t + 30 ≤ 7293034 by omega⟩ dL_law_120 (fun v9 M1 hP => ?_)
    obtain ⟨e9, hh1, hh2, f1, ho1, hf1⟩ := hP
    subst e9
    obtain ⟨hR1, A1, G1, ob1, hC1, hg1, hd1⟩ := LW_c hR ho hg hgm hd hh1 hh2
    refine VV.eqv (st' := [.int (nI (oObject σ (0 : Int32)).1)]) rfl rfl ?_
    refine V_istore C dL_law_123 (by decide) ?_
    refine V_aload_n C dL_law_125 (by rfl) ?_
    refine V_aload_n C dL_law_126 (by rfl) ?_
    refine V_iload C dL_law_127 (by rfl) ?_
    refine V_iconst C (nI 1) dL_law_129 (by decide) ?_
    refine V_iadd C dL_law_130 ?_
    refine V_top (nI_add _ _) ?_
    refine V_sld C hX hbl hbb (j := 4 * t + 1) (by omega) (by omega) dL_law_131 ?_
    refine V_if_eq C 139 dL_law_132 (by decide) (fun h_132 => ?_) (fun h_132 => absurd h_132 (fun h => h h0))
    refine V_iconst C (0) dL_law_139 (by decide) ?_
    refine V_callVx C (As := [.int (0 : Int32)]) (m_object l hl base D ct sa hR1 hI (by omega) (0 : Int32) hg9) w_L_58 hR1.1 rfl rfl (by decide) (Nat.le_of_ble_eq_true rfl) ⟨show 200 + 5 * t + 4 + 0 ≤ 601024 by omega, show 14000 + 32 * t + 30 + 0 ≤ 7293034 by omega⟩ dL_law_140 (fun ls9 hL9 E9 M9 ce9 q9 H9 locs9 h9 => h9.elim) (fun v8 M2 hQ => ?_)
    obtain ⟨rfl, hH⟩ := hQ
    obtain ⟨hLW2, ho2⟩ := LW_m hC1 (iv_object hI (0 : Int32)) ho1 hg1 hgm hd1 hH
    refine VV.eqv (st' := [.int (oObject σ (0 : Int32)).2.1]) rfl rfl ?_
    refine V_istore C dL_law_143 (by decide) ?_
    refine V_aload_n C dL_law_145 (by rfl) ?_
    refine V_callVx C (As := []) (m_thrown l hl base D ct sa hH.1) w_L_59 hH.1.1 rfl rfl (by decide) (Nat.le_of_ble_eq_true rfl) ⟨show 200 + 5 * t + 4 + 0 + 0 ≤ 601024 by omega, show 14000 + 32 * t + 30 + 0 + 0 ≤ 7293034 by omega⟩ dL_law_146 (fun ls9 hL9 E9 M9 ce9 q9 H9 locs9 h9 => h9.elim) (fun v7 M3 hT => ?_)
    obtain ⟨rfl, rfl⟩ := hT
    refine VV.eqv (st' := [.int (nI (oObject σ (0 : Int32)).1)]) rfl rfl ?_
    refine V_iload C dL_law_149 (by rfl) ?_
    refine V_icmp_eq C 156 dL_law_151 (by decide) (fun h_151 => ?_) (fun h_151 => absurd h_151 (fun h => h rfl))
    refine V_iload C dL_law_156 (by rfl) ?_
    refine V_if_ne C 173 dL_law_158 (by decide) (fun h_158 => ?_) (fun h_158 => ?_)
    · refine V_goto C 736 dL_law_173 (by decide) ?_
      refine VV.loc (LL b x mo out t) ⟨rfl, rfl, rfl, rfl, rfl, trivial⟩ ?_
      exact next (oObject σ (0 : Int32)).2.2 M3 _ _ hLW2 (iv_object hI (0 : Int32)) (show 200 + 5 * t + 4 + 0 + 0 ≤ _ by omega) (show 14000 + 32 * t + 30 + 0 + 0 ≤ _ by omega)
    · have hz := c0_1 (er_object σ (0 : Int32)) h_158
      refine V_aload_n C dL_law_161 (by rfl) ?_
      refine V_iconst C (nI 0) dL_law_162 (by decide) ?_
      refine N_lald C ho2 (by decide) (by decide) dL_law_163 ?_
      refine V_iload C dL_law_164 (by rfl) ?_
      refine V_i2l C dL_law_166 ?_
      refine V_lcmp C dL_law_167 ?_
      refine V_top (y := 0) (by rw [hf1 hz]; exact lg_self _) ?_
      refine V_if_eq C 173 dL_law_168 (by decide) (fun h_168 => ?_) (fun h_168 => absurd h_168 (fun h => h rfl))
      refine V_goto C 736 dL_law_173 (by decide) ?_
      refine VV.loc (LL b x mo out t) ⟨rfl, rfl, rfl, rfl, rfl, trivial⟩ ?_
      exact next (oObject σ (0 : Int32)).2.2 M3 _ _ hLW2 (iv_object hI (0 : Int32)) (show 200 + 5 * t + 4 + 0 + 0 ≤ _ by omega) (show 14000 + 32 * t + 30 + 0 + 0 ≤ _ by omega)
  · have hg9 : (1 : Int32) = 0 ∨ (1 : Int32) = 1 := Or.inr rfl
    refine V_aload_n C dL_law_104 (by rfl) ?_
    refine V_aload_n C dL_law_105 (by rfl) ?_
    refine V_iload C dL_law_106 (by rfl) ?_
    refine V_iconst C (nI 1) dL_law_108 (by decide) ?_
    refine V_iadd C dL_law_109 ?_
    refine V_top (nI_add _ _) ?_
    refine V_sld C hX hbl hbb (j := 4 * t + 1) (by omega) (by omega) dL_law_110 ?_
    refine V_if_eq C 118 dL_law_111 (by decide) (fun h_111 => absurd h_111 (h0)) (fun h_111 => ?_)
    refine V_iconst C (1) dL_law_114 (by decide) ?_
    refine V_goto C 119 dL_law_115 (by decide) ?_
    refine V_aload_n C dL_law_119 (by rfl) ?_
    refine V_callSH C (As := [.ref x, .int (1 : Int32), .ref out]) (h_object l hl base D ct sa hC hI (by omega) ho hg (1 : Int32) hg9 (iv_object hI (1 : Int32))) wh_object rfl (by decide) (Nat.le_of_ble_eq_true rfl) ⟨show 200 + 5 * t + 4 ≤ 601024 by omega, show 14000 + 32 * t + 30 ≤ 7293034 by omega⟩ dL_law_120 (fun v9 M1 hP => ?_)
    obtain ⟨e9, hh1, hh2, f1, ho1, hf1⟩ := hP
    subst e9
    obtain ⟨hR1, A1, G1, ob1, hC1, hg1, hd1⟩ := LW_c hR ho hg hgm hd hh1 hh2
    refine VV.eqv (st' := [.int (nI (oObject σ (1 : Int32)).1)]) rfl rfl ?_
    refine V_istore C dL_law_123 (by decide) ?_
    refine V_aload_n C dL_law_125 (by rfl) ?_
    refine V_aload_n C dL_law_126 (by rfl) ?_
    refine V_iload C dL_law_127 (by rfl) ?_
    refine V_iconst C (nI 1) dL_law_129 (by decide) ?_
    refine V_iadd C dL_law_130 ?_
    refine V_top (nI_add _ _) ?_
    refine V_sld C hX hbl hbb (j := 4 * t + 1) (by omega) (by omega) dL_law_131 ?_
    refine V_if_eq C 139 dL_law_132 (by decide) (fun h_132 => absurd h_132 (h0)) (fun h_132 => ?_)
    refine V_iconst C (1) dL_law_135 (by decide) ?_
    refine V_goto C 140 dL_law_136 (by decide) ?_
    refine V_callVx C (As := [.int (1 : Int32)]) (m_object l hl base D ct sa hR1 hI (by omega) (1 : Int32) hg9) w_L_58 hR1.1 rfl rfl (by decide) (Nat.le_of_ble_eq_true rfl) ⟨show 200 + 5 * t + 4 + 0 ≤ 601024 by omega, show 14000 + 32 * t + 30 + 0 ≤ 7293034 by omega⟩ dL_law_140 (fun ls9 hL9 E9 M9 ce9 q9 H9 locs9 h9 => h9.elim) (fun v8 M2 hQ => ?_)
    obtain ⟨rfl, hH⟩ := hQ
    obtain ⟨hLW2, ho2⟩ := LW_m hC1 (iv_object hI (1 : Int32)) ho1 hg1 hgm hd1 hH
    refine VV.eqv (st' := [.int (oObject σ (1 : Int32)).2.1]) rfl rfl ?_
    refine V_istore C dL_law_143 (by decide) ?_
    refine V_aload_n C dL_law_145 (by rfl) ?_
    refine V_callVx C (As := []) (m_thrown l hl base D ct sa hH.1) w_L_59 hH.1.1 rfl rfl (by decide) (Nat.le_of_ble_eq_true rfl) ⟨show 200 + 5 * t + 4 + 0 + 0 ≤ 601024 by omega, show 14000 + 32 * t + 30 + 0 + 0 ≤ 7293034 by omega⟩ dL_law_146 (fun ls9 hL9 E9 M9 ce9 q9 H9 locs9 h9 => h9.elim) (fun v7 M3 hT => ?_)
    obtain ⟨rfl, rfl⟩ := hT
    refine VV.eqv (st' := [.int (nI (oObject σ (1 : Int32)).1)]) rfl rfl ?_
    refine V_iload C dL_law_149 (by rfl) ?_
    refine V_icmp_eq C 156 dL_law_151 (by decide) (fun h_151 => ?_) (fun h_151 => absurd h_151 (fun h => h rfl))
    refine V_iload C dL_law_156 (by rfl) ?_
    refine V_if_ne C 173 dL_law_158 (by decide) (fun h_158 => ?_) (fun h_158 => ?_)
    · refine V_goto C 736 dL_law_173 (by decide) ?_
      refine VV.loc (LL b x mo out t) ⟨rfl, rfl, rfl, rfl, rfl, trivial⟩ ?_
      exact next (oObject σ (1 : Int32)).2.2 M3 _ _ hLW2 (iv_object hI (1 : Int32)) (show 200 + 5 * t + 4 + 0 + 0 ≤ _ by omega) (show 14000 + 32 * t + 30 + 0 + 0 ≤ _ by omega)
    · have hz := c0_1 (er_object σ (1 : Int32)) h_158
      refine V_aload_n C dL_law_161 (by rfl) ?_
      refine V_iconst C (nI 0) dL_law_162 (by decide) ?_
      refine N_lald C ho2 (by decide) (by decide) dL_law_163 ?_
      refine V_iload C dL_law_164 (by rfl) ?_
      refine V_i2l C dL_law_166 ?_
      refine V_lcmp C dL_law_167 ?_
      refine V_top (y := 0) (by rw [hf1 hz]; exact lg_self _) ?_
      refine V_if_eq C 173 dL_law_168 (by decide) (fun h_168 => ?_) (fun h_168 => absurd h_168 (fun h => h rfl))
      refine V_goto C 736 dL_law_173 (by decide) ?_
      refine VV.loc (LL b x mo out t) ⟨rfl, rfl, rfl, rfl, rfl, trivial⟩ ?_
      exact next (oObject σ (1 : Int32)).2.2 M3 _ _ hLW2 (iv_object hI (1 : Int32)) (show 200 + 5 * t + 4 + 0 + 0 ≤ _ by omega) (show 14000 + 32 * t + 30 + 0 + 0 ≤ _ by omega)
set_option maxHeartbeats 4000000 in
set_option maxRecDepth 100000 in
theorem law_put {p : Program} {l : Launch} {e : Env} {s : State} {m : MethodId} {below : List Frame} {meth : Method} {c : Code} {b L : Nat} {xs : Nat → Int32} {base : Nat} {D : va_G} {ct : Nat → ClassId} {sa : Nat → Nat} {x mo out t : Nat} {σ : Sg} {M : Mem} (hl : l.stackTraces = false) (C : Cx p l s m ([.ref b] : List Value).toArray meth c cL_law 7 RL base D ct sa) (hX : va_X b L xs s s.heap) (hbl : b < s.heap.size) (hbb : b < base) (hL : L ≤ 2048) (ht : 4 * t + 4 ≤ L) (hI : Inv t σ) (hLW : LW ct x mo out σ M)
    (next : ∀ (σ' : Sg) (M' : Mem) (k n : Nat), LW ct x mo out σ' M' → Inv (t + 1) σ' → k ≤ 205 + 5 * t → n ≤ 14032 + 32 * t → VL p l e s m below meth c base D b M' k n 736 (LL b x mo out t) []) : VL p l e s m below meth c base D b M (200 + 5 * t) (14000 + 32 * t) 176 (LL b x mo out t) [] := by
  obtain ⟨A, G, ob, B, Gm, th, f, hC, hR, ho, hg, hgm, hd⟩ := hLW
  refine V_aload_n C dL_law_176 (by rfl) ?_
  refine V_aload_n C dL_law_177 (by rfl) ?_
  refine V_iload C dL_law_178 (by rfl) ?_
  refine V_iconst C (nI 1) dL_law_180 (by decide) ?_
  refine V_iadd C dL_law_181 ?_
  refine V_top (nI_add _ _) ?_
  refine V_sld C hX hbl hbb (j := 4 * t + 1) (by omega) (by omega) dL_law_182 ?_
  refine V_aload_n C dL_law_183 (by rfl) ?_
  refine V_iload C dL_law_184 (by rfl) ?_
  refine V_iconst C (nI 2) dL_law_186 (by decide) ?_
  refine V_iadd C dL_law_187 ?_
  refine V_top (nI_add _ _) ?_
  refine V_sld C hX hbl hbb (j := 4 * t + 2) (by omega) (by omega) dL_law_188 ?_
  refine V_aload_n C dL_law_189 (by rfl) ?_
  refine V_iload C dL_law_190 (by rfl) ?_
  refine V_iconst C (nI 3) dL_law_192 (by decide) ?_
  refine V_iadd C dL_law_193 ?_
  refine V_top (nI_add _ _) ?_
  refine V_sld C hX hbl hbb (j := 4 * t + 3) (by omega) (by omega) dL_law_194 ?_
  refine V_aload_n C dL_law_195 (by rfl) ?_
  refine V_callSH C (As := [.ref x, .int (xs (4 * t + 1)), .int (xs (4 * t + 2)), .int (xs (4 * t + 3)), .ref out]) (h_put l hl base D ct sa hC hI (by omega) ho hg (xs (4 * t + 1)) (xs (4 * t + 2)) (xs (4 * t + 3)) (iv_put hI (by omega) (xs (4 * t + 1)) (xs (4 * t + 2)) (xs (4 * t + 3)))) wh_put rfl (by decide) (Nat.le_of_ble_eq_true rfl) ⟨show 200 + 5 * t + 5 ≤ 601024 by omega, show 14000 + 32 * t + 32 ≤ 7293034 by omega⟩ dL_law_196 (fun v9 M1 hP => ?_)
  obtain ⟨e9, hh1, hh2, f1, ho1, hf1⟩ := hP
  subst e9
  obtain ⟨hR1, A1, G1, ob1, hC1, hg1, hd1⟩ := LW_c hR ho hg hgm hd hh1 hh2
  refine VV.eqv (st' := [.int (nI (oPut σ (xs (4 * t + 1)) (xs (4 * t + 2)) (xs (4 * t + 3))).1)]) rfl rfl ?_
  refine V_istore C dL_law_199 (by decide) ?_
  refine V_aload_n C dL_law_201 (by rfl) ?_
  refine V_aload_n C dL_law_202 (by rfl) ?_
  refine V_iload C dL_law_203 (by rfl) ?_
  refine V_iconst C (nI 1) dL_law_205 (by decide) ?_
  refine V_iadd C dL_law_206 ?_
  refine V_top (nI_add _ _) ?_
  refine V_sld C hX hbl hbb (j := 4 * t + 1) (by omega) (by omega) dL_law_207 ?_
  refine V_aload_n C dL_law_208 (by rfl) ?_
  refine V_iload C dL_law_209 (by rfl) ?_
  refine V_iconst C (nI 2) dL_law_211 (by decide) ?_
  refine V_iadd C dL_law_212 ?_
  refine V_top (nI_add _ _) ?_
  refine V_sld C hX hbl hbb (j := 4 * t + 2) (by omega) (by omega) dL_law_213 ?_
  refine V_aload_n C dL_law_214 (by rfl) ?_
  refine V_iload C dL_law_215 (by rfl) ?_
  refine V_iconst C (nI 3) dL_law_217 (by decide) ?_
  refine V_iadd C dL_law_218 ?_
  refine V_top (nI_add _ _) ?_
  refine V_sld C hX hbl hbb (j := 4 * t + 3) (by omega) (by omega) dL_law_219 ?_
  refine V_callVx C (As := [.int (xs (4 * t + 1)), .int (xs (4 * t + 2)), .int (xs (4 * t + 3))]) (m_put l hl base D ct sa hR1 hI (by omega) (xs (4 * t + 1)) (xs (4 * t + 2)) (xs (4 * t + 3))) w_L_65 hR1.1 rfl rfl (by decide) (Nat.le_of_ble_eq_true rfl) ⟨show 200 + 5 * t + 5 + 0 ≤ 601024 by omega, show 14000 + 32 * t + 32 + 0 ≤ 7293034 by omega⟩ dL_law_220 (fun ls9 hL9 E9 M9 ce9 q9 H9 locs9 h9 => h9.elim) (fun v8 M2 hQ => ?_)
  obtain ⟨rfl, hH⟩ := hQ
  obtain ⟨hLW2, ho2⟩ := LW_m hC1 (iv_put hI (by omega) (xs (4 * t + 1)) (xs (4 * t + 2)) (xs (4 * t + 3))) ho1 hg1 hgm hd1 hH
  refine VV.eqv (st' := [.int (oPut σ (xs (4 * t + 1)) (xs (4 * t + 2)) (xs (4 * t + 3))).2.1]) rfl rfl ?_
  refine V_istore C dL_law_223 (by decide) ?_
  refine V_aload_n C dL_law_225 (by rfl) ?_
  refine V_callVx C (As := []) (m_thrown l hl base D ct sa hH.1) w_L_59 hH.1.1 rfl rfl (by decide) (Nat.le_of_ble_eq_true rfl) ⟨show 200 + 5 * t + 5 + 0 + 0 ≤ 601024 by omega, show 14000 + 32 * t + 32 + 0 + 0 ≤ 7293034 by omega⟩ dL_law_226 (fun ls9 hL9 E9 M9 ce9 q9 H9 locs9 h9 => h9.elim) (fun v7 M3 hT => ?_)
  obtain ⟨rfl, rfl⟩ := hT
  refine VV.eqv (st' := [.int (nI (oPut σ (xs (4 * t + 1)) (xs (4 * t + 2)) (xs (4 * t + 3))).1)]) rfl rfl ?_
  refine V_iload C dL_law_229 (by rfl) ?_
  refine V_icmp_eq C 236 dL_law_231 (by decide) (fun h_231 => ?_) (fun h_231 => absurd h_231 (fun h => h rfl))
  refine V_iload C dL_law_236 (by rfl) ?_
  refine V_if_ne C 253 dL_law_238 (by decide) (fun h_238 => ?_) (fun h_238 => ?_)
  · refine V_goto C 736 dL_law_253 (by decide) ?_
    refine VV.loc (LL b x mo out t) ⟨rfl, rfl, rfl, rfl, rfl, trivial⟩ ?_
    exact next (oPut σ (xs (4 * t + 1)) (xs (4 * t + 2)) (xs (4 * t + 3))).2.2 M3 _ _ hLW2 (iv_put hI (by omega) (xs (4 * t + 1)) (xs (4 * t + 2)) (xs (4 * t + 3))) (show 200 + 5 * t + 5 + 0 + 0 ≤ _ by omega) (show 14000 + 32 * t + 32 + 0 + 0 ≤ _ by omega)
  · have hz := c0_3 (er_put σ (xs (4 * t + 1)) (xs (4 * t + 2)) (xs (4 * t + 3))) h_238
    refine V_aload_n C dL_law_241 (by rfl) ?_
    refine V_iconst C (nI 0) dL_law_242 (by decide) ?_
    refine N_lald C ho2 (by decide) (by decide) dL_law_243 ?_
    refine V_iload C dL_law_244 (by rfl) ?_
    refine V_i2l C dL_law_246 ?_
    refine V_lcmp C dL_law_247 ?_
    refine V_top (y := 0) (by rw [hf1 hz]; exact lg_self _) ?_
    refine V_if_eq C 253 dL_law_248 (by decide) (fun h_248 => ?_) (fun h_248 => absurd h_248 (fun h => h rfl))
    refine V_goto C 736 dL_law_253 (by decide) ?_
    refine VV.loc (LL b x mo out t) ⟨rfl, rfl, rfl, rfl, rfl, trivial⟩ ?_
    exact next (oPut σ (xs (4 * t + 1)) (xs (4 * t + 2)) (xs (4 * t + 3))).2.2 M3 _ _ hLW2 (iv_put hI (by omega) (xs (4 * t + 1)) (xs (4 * t + 2)) (xs (4 * t + 3))) (show 200 + 5 * t + 5 + 0 + 0 ≤ _ by omega) (show 14000 + 32 * t + 32 + 0 + 0 ≤ _ by omega)
set_option maxHeartbeats 4000000 in
set_option maxRecDepth 100000 in
theorem law_get {p : Program} {l : Launch} {e : Env} {s : State} {m : MethodId} {below : List Frame} {meth : Method} {c : Code} {b L : Nat} {xs : Nat → Int32} {base : Nat} {D : va_G} {ct : Nat → ClassId} {sa : Nat → Nat} {x mo out t : Nat} {σ : Sg} {M : Mem} (hl : l.stackTraces = false) (C : Cx p l s m ([.ref b] : List Value).toArray meth c cL_law 7 RL base D ct sa) (hX : va_X b L xs s s.heap) (hbl : b < s.heap.size) (hbb : b < base) (hL : L ≤ 2048) (ht : 4 * t + 4 ≤ L) (hI : Inv t σ) (hLW : LW ct x mo out σ M)
    (next : ∀ (σ' : Sg) (M' : Mem) (k n : Nat), LW ct x mo out σ' M' → Inv (t + 1) σ' → k ≤ 205 + 5 * t → n ≤ 14032 + 32 * t → VL p l e s m below meth c base D b M' k n 736 (LL b x mo out t) []) : VL p l e s m below meth c base D b M (200 + 5 * t) (14000 + 32 * t) 256 (LL b x mo out t) [] := by
  obtain ⟨A, G, ob, B, Gm, th, f, hC, hR, ho, hg, hgm, hd⟩ := hLW
  refine V_aload_n C dL_law_256 (by rfl) ?_
  refine V_aload_n C dL_law_257 (by rfl) ?_
  refine V_iload C dL_law_258 (by rfl) ?_
  refine V_iconst C (nI 1) dL_law_260 (by decide) ?_
  refine V_iadd C dL_law_261 ?_
  refine V_top (nI_add _ _) ?_
  refine V_sld C hX hbl hbb (j := 4 * t + 1) (by omega) (by omega) dL_law_262 ?_
  refine V_aload_n C dL_law_263 (by rfl) ?_
  refine V_iload C dL_law_264 (by rfl) ?_
  refine V_iconst C (nI 2) dL_law_266 (by decide) ?_
  refine V_iadd C dL_law_267 ?_
  refine V_top (nI_add _ _) ?_
  refine V_sld C hX hbl hbb (j := 4 * t + 2) (by omega) (by omega) dL_law_268 ?_
  refine V_aload_n C dL_law_269 (by rfl) ?_
  refine V_callSH C (As := [.ref x, .int (xs (4 * t + 1)), .int (xs (4 * t + 2)), .ref out]) (h_get l hl base D ct sa hC hI (by omega) ho hg (xs (4 * t + 1)) (xs (4 * t + 2)) (iv_get hI (xs (4 * t + 1)) (xs (4 * t + 2)))) wh_get rfl (by decide) (Nat.le_of_ble_eq_true rfl) ⟨show 200 + 5 * t + 2 ≤ 601024 by omega, show 14000 + 32 * t + 12 ≤ 7293034 by omega⟩ dL_law_270 (fun v9 M1 hP => ?_)
  obtain ⟨e9, hh1, hh2, f1, ho1, hf1⟩ := hP
  subst e9
  obtain ⟨hR1, A1, G1, ob1, hC1, hg1, hd1⟩ := LW_c hR ho hg hgm hd hh1 hh2
  refine VV.eqv (st' := [.int (nI (oGet σ (xs (4 * t + 1)) (xs (4 * t + 2))).1)]) rfl rfl ?_
  refine V_istore C dL_law_273 (by decide) ?_
  refine V_aload_n C dL_law_275 (by rfl) ?_
  refine V_aload_n C dL_law_276 (by rfl) ?_
  refine V_iload C dL_law_277 (by rfl) ?_
  refine V_iconst C (nI 1) dL_law_279 (by decide) ?_
  refine V_iadd C dL_law_280 ?_
  refine V_top (nI_add _ _) ?_
  refine V_sld C hX hbl hbb (j := 4 * t + 1) (by omega) (by omega) dL_law_281 ?_
  refine V_aload_n C dL_law_282 (by rfl) ?_
  refine V_iload C dL_law_283 (by rfl) ?_
  refine V_iconst C (nI 2) dL_law_285 (by decide) ?_
  refine V_iadd C dL_law_286 ?_
  refine V_top (nI_add _ _) ?_
  refine V_sld C hX hbl hbb (j := 4 * t + 2) (by omega) (by omega) dL_law_287 ?_
  refine V_callVx C (As := [.int (xs (4 * t + 1)), .int (xs (4 * t + 2))]) (m_get l hl base D ct sa hR1 hI (by omega) (xs (4 * t + 1)) (xs (4 * t + 2))) w_L_69 hR1.1 rfl rfl (by decide) (Nat.le_of_ble_eq_true rfl) ⟨show 200 + 5 * t + 2 + 0 ≤ 601024 by omega, show 14000 + 32 * t + 12 + 0 ≤ 7293034 by omega⟩ dL_law_288 (fun ls9 hL9 E9 M9 ce9 q9 H9 locs9 h9 => h9.elim) (fun v8 M2 hQ => ?_)
  obtain ⟨rfl, hH⟩ := hQ
  obtain ⟨hLW2, ho2⟩ := LW_m hC1 (iv_get hI (xs (4 * t + 1)) (xs (4 * t + 2))) ho1 hg1 hgm hd1 hH
  refine VV.eqv (st' := [.int (oGet σ (xs (4 * t + 1)) (xs (4 * t + 2))).2.1]) rfl rfl ?_
  refine V_istore C dL_law_291 (by decide) ?_
  refine V_aload_n C dL_law_293 (by rfl) ?_
  refine V_callVx C (As := []) (m_thrown l hl base D ct sa hH.1) w_L_59 hH.1.1 rfl rfl (by decide) (Nat.le_of_ble_eq_true rfl) ⟨show 200 + 5 * t + 2 + 0 + 0 ≤ 601024 by omega, show 14000 + 32 * t + 12 + 0 + 0 ≤ 7293034 by omega⟩ dL_law_294 (fun ls9 hL9 E9 M9 ce9 q9 H9 locs9 h9 => h9.elim) (fun v7 M3 hT => ?_)
  obtain ⟨rfl, rfl⟩ := hT
  refine VV.eqv (st' := [.int (nI (oGet σ (xs (4 * t + 1)) (xs (4 * t + 2))).1)]) rfl rfl ?_
  refine V_iload C dL_law_297 (by rfl) ?_
  refine V_icmp_eq C 304 dL_law_299 (by decide) (fun h_299 => ?_) (fun h_299 => absurd h_299 (fun h => h rfl))
  refine V_iload C dL_law_304 (by rfl) ?_
  refine V_if_ne C 321 dL_law_306 (by decide) (fun h_306 => ?_) (fun h_306 => ?_)
  · refine V_goto C 736 dL_law_321 (by decide) ?_
    refine VV.loc (LL b x mo out t) ⟨rfl, rfl, rfl, rfl, rfl, trivial⟩ ?_
    exact next (oGet σ (xs (4 * t + 1)) (xs (4 * t + 2))).2.2 M3 _ _ hLW2 (iv_get hI (xs (4 * t + 1)) (xs (4 * t + 2))) (show 200 + 5 * t + 2 + 0 + 0 ≤ _ by omega) (show 14000 + 32 * t + 12 + 0 + 0 ≤ _ by omega)
  · have hz := c0_2 (er_get σ (xs (4 * t + 1)) (xs (4 * t + 2))) h_306
    refine V_aload_n C dL_law_309 (by rfl) ?_
    refine V_iconst C (nI 0) dL_law_310 (by decide) ?_
    refine N_lald C ho2 (by decide) (by decide) dL_law_311 ?_
    refine V_iload C dL_law_312 (by rfl) ?_
    refine V_i2l C dL_law_314 ?_
    refine V_lcmp C dL_law_315 ?_
    refine V_top (y := 0) (by rw [hf1 hz]; exact lg_self _) ?_
    refine V_if_eq C 321 dL_law_316 (by decide) (fun h_316 => ?_) (fun h_316 => absurd h_316 (fun h => h rfl))
    refine V_goto C 736 dL_law_321 (by decide) ?_
    refine VV.loc (LL b x mo out t) ⟨rfl, rfl, rfl, rfl, rfl, trivial⟩ ?_
    exact next (oGet σ (xs (4 * t + 1)) (xs (4 * t + 2))).2.2 M3 _ _ hLW2 (iv_get hI (xs (4 * t + 1)) (xs (4 * t + 2))) (show 200 + 5 * t + 2 + 0 + 0 ≤ _ by omega) (show 14000 + 32 * t + 12 + 0 + 0 ≤ _ by omega)
set_option maxHeartbeats 4000000 in
set_option maxRecDepth 100000 in
theorem law_save {p : Program} {l : Launch} {e : Env} {s : State} {m : MethodId} {below : List Frame} {meth : Method} {c : Code} {b L : Nat} {xs : Nat → Int32} {base : Nat} {D : va_G} {ct : Nat → ClassId} {sa : Nat → Nat} {x mo out t : Nat} {σ : Sg} {M : Mem} (hl : l.stackTraces = false) (C : Cx p l s m ([.ref b] : List Value).toArray meth c cL_law 7 RL base D ct sa) (hX : va_X b L xs s s.heap) (hbl : b < s.heap.size) (hbb : b < base) (hL : L ≤ 2048) (ht : 4 * t + 4 ≤ L) (hI : Inv t σ) (hLW : LW ct x mo out σ M)
    (next : ∀ (σ' : Sg) (M' : Mem) (k n : Nat), LW ct x mo out σ' M' → Inv (t + 1) σ' → k ≤ 205 + 5 * t → n ≤ 14032 + 32 * t → VL p l e s m below meth c base D b M' k n 736 (LL b x mo out t) []) : VL p l e s m below meth c base D b M (200 + 5 * t) (14000 + 32 * t) 324 (LL b x mo out t) [] := by
  obtain ⟨A, G, ob, B, Gm, th, f, hC, hR, ho, hg, hgm, hd⟩ := hLW
  refine V_aload_n C dL_law_324 (by rfl) ?_
  refine V_aload_n C dL_law_325 (by rfl) ?_
  refine V_callSH C (As := [.ref x, .ref out]) (h_save l hl base D ct sa hC hI (by omega) ho hg (iv_save hI )) wh_save rfl (by decide) (Nat.le_of_ble_eq_true rfl) ⟨show 200 + 5 * t + 5 ≤ 601024 by omega, show 14000 + 32 * t + 32 ≤ 7293034 by omega⟩ dL_law_326 (fun v9 M1 hP => ?_)
  obtain ⟨e9, hh1, hh2, f1, ho1, hf1⟩ := hP
  subst e9
  obtain ⟨hR1, A1, G1, ob1, hC1, hg1, hd1⟩ := LW_c hR ho hg hgm hd hh1 hh2
  refine VV.eqv (st' := [.int (nI (oSave σ).1)]) rfl rfl ?_
  refine V_istore C dL_law_329 (by decide) ?_
  refine V_aload_n C dL_law_331 (by rfl) ?_
  refine V_callVx C (As := []) (m_save l hl base D ct sa hR1 hI (by omega)) w_L_73 hR1.1 rfl rfl (by decide) (Nat.le_of_ble_eq_true rfl) ⟨show 200 + 5 * t + 5 + 0 ≤ 601024 by omega, show 14000 + 32 * t + 32 + 0 ≤ 7293034 by omega⟩ dL_law_332 (fun ls9 hL9 E9 M9 ce9 q9 H9 locs9 h9 => h9.elim) (fun v8 M2 hQ => ?_)
  obtain ⟨rfl, hH⟩ := hQ
  obtain ⟨hLW2, ho2⟩ := LW_m hC1 (iv_save hI ) ho1 hg1 hgm hd1 hH
  refine VV.eqv (st' := [.int (oSave σ).2.1]) rfl rfl ?_
  refine V_istore C dL_law_335 (by decide) ?_
  refine V_aload_n C dL_law_337 (by rfl) ?_
  refine V_callVx C (As := []) (m_thrown l hl base D ct sa hH.1) w_L_59 hH.1.1 rfl rfl (by decide) (Nat.le_of_ble_eq_true rfl) ⟨show 200 + 5 * t + 5 + 0 + 0 ≤ 601024 by omega, show 14000 + 32 * t + 32 + 0 + 0 ≤ 7293034 by omega⟩ dL_law_338 (fun ls9 hL9 E9 M9 ce9 q9 H9 locs9 h9 => h9.elim) (fun v7 M3 hT => ?_)
  obtain ⟨rfl, rfl⟩ := hT
  refine VV.eqv (st' := [.int (nI (oSave σ).1)]) rfl rfl ?_
  refine V_iload C dL_law_341 (by rfl) ?_
  refine V_icmp_eq C 348 dL_law_343 (by decide) (fun h_343 => ?_) (fun h_343 => absurd h_343 (fun h => h rfl))
  refine V_iload C dL_law_348 (by rfl) ?_
  refine V_if_ne C 365 dL_law_350 (by decide) (fun h_350 => ?_) (fun h_350 => ?_)
  · refine V_goto C 736 dL_law_365 (by decide) ?_
    refine VV.loc (LL b x mo out t) ⟨rfl, rfl, rfl, rfl, rfl, trivial⟩ ?_
    exact next (oSave σ).2.2 M3 _ _ hLW2 (iv_save hI ) (show 200 + 5 * t + 5 + 0 + 0 ≤ _ by omega) (show 14000 + 32 * t + 32 + 0 + 0 ≤ _ by omega)
  · have hz := c0_1 (er_save σ ) h_350
    refine V_aload_n C dL_law_353 (by rfl) ?_
    refine V_iconst C (nI 0) dL_law_354 (by decide) ?_
    refine N_lald C ho2 (by decide) (by decide) dL_law_355 ?_
    refine V_iload C dL_law_356 (by rfl) ?_
    refine V_i2l C dL_law_358 ?_
    refine V_lcmp C dL_law_359 ?_
    refine V_top (y := 0) (by rw [hf1 hz]; exact lg_self _) ?_
    refine V_if_eq C 365 dL_law_360 (by decide) (fun h_360 => ?_) (fun h_360 => absurd h_360 (fun h => h rfl))
    refine V_goto C 736 dL_law_365 (by decide) ?_
    refine VV.loc (LL b x mo out t) ⟨rfl, rfl, rfl, rfl, rfl, trivial⟩ ?_
    exact next (oSave σ).2.2 M3 _ _ hLW2 (iv_save hI ) (show 200 + 5 * t + 5 + 0 + 0 ≤ _ by omega) (show 14000 + 32 * t + 32 + 0 + 0 ≤ _ by omega)
set_option maxHeartbeats 4000000 in
set_option maxRecDepth 100000 in
theorem law_state {p : Program} {l : Launch} {e : Env} {s : State} {m : MethodId} {below : List Frame} {meth : Method} {c : Code} {b L : Nat} {xs : Nat → Int32} {base : Nat} {D : va_G} {ct : Nat → ClassId} {sa : Nat → Nat} {x mo out t : Nat} {σ : Sg} {M : Mem} (hl : l.stackTraces = false) (C : Cx p l s m ([.ref b] : List Value).toArray meth c cL_law 7 RL base D ct sa) (hX : va_X b L xs s s.heap) (hbl : b < s.heap.size) (hbb : b < base) (hL : L ≤ 2048) (ht : 4 * t + 4 ≤ L) (hI : Inv t σ) (hLW : LW ct x mo out σ M)
    (next : ∀ (σ' : Sg) (M' : Mem) (k n : Nat), LW ct x mo out σ' M' → Inv (t + 1) σ' → k ≤ 205 + 5 * t → n ≤ 14032 + 32 * t → VL p l e s m below meth c base D b M' k n 736 (LL b x mo out t) []) : VL p l e s m below meth c base D b M (200 + 5 * t) (14000 + 32 * t) 393 (LL b x mo out t) [] := by
  obtain ⟨A, G, ob, B, Gm, th, f, hC, hR, ho, hg, hgm, hd⟩ := hLW
  refine V_aload_n C dL_law_393 (by rfl) ?_
  refine V_aload_n C dL_law_394 (by rfl) ?_
  refine V_iload C dL_law_395 (by rfl) ?_
  refine V_iconst C (nI 1) dL_law_397 (by decide) ?_
  refine V_iadd C dL_law_398 ?_
  refine V_top (nI_add _ _) ?_
  refine V_sld C hX hbl hbb (j := 4 * t + 1) (by omega) (by omega) dL_law_399 ?_
  refine V_aload_n C dL_law_400 (by rfl) ?_
  refine V_iload C dL_law_401 (by rfl) ?_
  refine V_iconst C (nI 2) dL_law_403 (by decide) ?_
  refine V_iadd C dL_law_404 ?_
  refine V_top (nI_add _ _) ?_
  refine V_sld C hX hbl hbb (j := 4 * t + 2) (by omega) (by omega) dL_law_405 ?_
  refine V_aload_n C dL_law_406 (by rfl) ?_
  refine V_callSH C (As := [.ref x, .int (xs (4 * t + 1)), .int (xs (4 * t + 2)), .ref out]) (h_state l hl base D ct sa hC hI (by omega) ho hg (xs (4 * t + 1)) (xs (4 * t + 2)) (iv_state hI (xs (4 * t + 1)) (xs (4 * t + 2)))) wh_state rfl (by decide) (Nat.le_of_ble_eq_true rfl) ⟨show 200 + 5 * t + 2 ≤ 601024 by omega, show 14000 + 32 * t + 12 ≤ 7293034 by omega⟩ dL_law_407 (fun v9 M1 hP => ?_)
  obtain ⟨e9, hh1, hh2, f1, ho1, hf1⟩ := hP
  subst e9
  obtain ⟨hR1, A1, G1, ob1, hC1, hg1, hd1⟩ := LW_c hR ho hg hgm hd hh1 hh2
  refine VV.eqv (st' := [.int (nI (oState σ (xs (4 * t + 1)) (xs (4 * t + 2))).1)]) rfl rfl ?_
  refine V_istore C dL_law_410 (by decide) ?_
  refine V_aload_n C dL_law_412 (by rfl) ?_
  refine V_aload_n C dL_law_413 (by rfl) ?_
  refine V_iload C dL_law_414 (by rfl) ?_
  refine V_iconst C (nI 1) dL_law_416 (by decide) ?_
  refine V_iadd C dL_law_417 ?_
  refine V_top (nI_add _ _) ?_
  refine V_sld C hX hbl hbb (j := 4 * t + 1) (by omega) (by omega) dL_law_418 ?_
  refine V_aload_n C dL_law_419 (by rfl) ?_
  refine V_iload C dL_law_420 (by rfl) ?_
  refine V_iconst C (nI 2) dL_law_422 (by decide) ?_
  refine V_iadd C dL_law_423 ?_
  refine V_top (nI_add _ _) ?_
  refine V_sld C hX hbl hbb (j := 4 * t + 2) (by omega) (by omega) dL_law_424 ?_
  refine V_callVx C (As := [.int (xs (4 * t + 1)), .int (xs (4 * t + 2))]) (m_state l hl base D ct sa hR1 hI (by omega) (xs (4 * t + 1)) (xs (4 * t + 2))) w_L_80 hR1.1 rfl rfl (by decide) (Nat.le_of_ble_eq_true rfl) ⟨show 200 + 5 * t + 2 + 0 ≤ 601024 by omega, show 14000 + 32 * t + 12 + 0 ≤ 7293034 by omega⟩ dL_law_425 (fun ls9 hL9 E9 M9 ce9 q9 H9 locs9 h9 => h9.elim) (fun v8 M2 hQ => ?_)
  obtain ⟨rfl, hH⟩ := hQ
  obtain ⟨hLW2, ho2⟩ := LW_m hC1 (iv_state hI (xs (4 * t + 1)) (xs (4 * t + 2))) ho1 hg1 hgm hd1 hH
  refine VV.eqv (st' := [.int (oState σ (xs (4 * t + 1)) (xs (4 * t + 2))).2.1]) rfl rfl ?_
  refine V_istore C dL_law_428 (by decide) ?_
  refine V_aload_n C dL_law_430 (by rfl) ?_
  refine V_callVx C (As := []) (m_thrown l hl base D ct sa hH.1) w_L_59 hH.1.1 rfl rfl (by decide) (Nat.le_of_ble_eq_true rfl) ⟨show 200 + 5 * t + 2 + 0 + 0 ≤ 601024 by omega, show 14000 + 32 * t + 12 + 0 + 0 ≤ 7293034 by omega⟩ dL_law_431 (fun ls9 hL9 E9 M9 ce9 q9 H9 locs9 h9 => h9.elim) (fun v7 M3 hT => ?_)
  obtain ⟨rfl, rfl⟩ := hT
  refine VV.eqv (st' := [.int (nI (oState σ (xs (4 * t + 1)) (xs (4 * t + 2))).1)]) rfl rfl ?_
  refine V_iload C dL_law_434 (by rfl) ?_
  refine V_icmp_eq C 441 dL_law_436 (by decide) (fun h_436 => ?_) (fun h_436 => absurd h_436 (fun h => h rfl))
  refine V_iload C dL_law_441 (by rfl) ?_
  refine V_if_ne C 458 dL_law_443 (by decide) (fun h_443 => ?_) (fun h_443 => ?_)
  · refine V_goto C 736 dL_law_458 (by decide) ?_
    refine VV.loc (LL b x mo out t) ⟨rfl, rfl, rfl, rfl, rfl, trivial⟩ ?_
    exact next (oState σ (xs (4 * t + 1)) (xs (4 * t + 2))).2.2 M3 _ _ hLW2 (iv_state hI (xs (4 * t + 1)) (xs (4 * t + 2))) (show 200 + 5 * t + 2 + 0 + 0 ≤ _ by omega) (show 14000 + 32 * t + 12 + 0 + 0 ≤ _ by omega)
  · have hz := c0_2 (er_state σ (xs (4 * t + 1)) (xs (4 * t + 2))) h_443
    refine V_aload_n C dL_law_446 (by rfl) ?_
    refine V_iconst C (nI 0) dL_law_447 (by decide) ?_
    refine N_lald C ho2 (by decide) (by decide) dL_law_448 ?_
    refine V_iload C dL_law_449 (by rfl) ?_
    refine V_i2l C dL_law_451 ?_
    refine V_lcmp C dL_law_452 ?_
    refine V_top (y := 0) (by rw [hf1 hz]; exact lg_self _) ?_
    refine V_if_eq C 458 dL_law_453 (by decide) (fun h_453 => ?_) (fun h_453 => absurd h_453 (fun h => h rfl))
    refine V_goto C 736 dL_law_458 (by decide) ?_
    refine VV.loc (LL b x mo out t) ⟨rfl, rfl, rfl, rfl, rfl, trivial⟩ ?_
    exact next (oState σ (xs (4 * t + 1)) (xs (4 * t + 2))).2.2 M3 _ _ hLW2 (iv_state hI (xs (4 * t + 1)) (xs (4 * t + 2))) (show 200 + 5 * t + 2 + 0 + 0 ≤ _ by omega) (show 14000 + 32 * t + 12 + 0 + 0 ≤ _ by omega)
set_option maxHeartbeats 4000000 in
set_option maxRecDepth 100000 in
theorem law_stateOf {p : Program} {l : Launch} {e : Env} {s : State} {m : MethodId} {below : List Frame} {meth : Method} {c : Code} {b L : Nat} {xs : Nat → Int32} {base : Nat} {D : va_G} {ct : Nat → ClassId} {sa : Nat → Nat} {x mo out t : Nat} {σ : Sg} {M : Mem} (hl : l.stackTraces = false) (C : Cx p l s m ([.ref b] : List Value).toArray meth c cL_law 7 RL base D ct sa) (hX : va_X b L xs s s.heap) (hbl : b < s.heap.size) (hbb : b < base) (hL : L ≤ 2048) (ht : 4 * t + 4 ≤ L) (hI : Inv t σ) (hLW : LW ct x mo out σ M)
    (next : ∀ (σ' : Sg) (M' : Mem) (k n : Nat), LW ct x mo out σ' M' → Inv (t + 1) σ' → k ≤ 205 + 5 * t → n ≤ 14032 + 32 * t → VL p l e s m below meth c base D b M' k n 736 (LL b x mo out t) []) : VL p l e s m below meth c base D b M (200 + 5 * t) (14000 + 32 * t) 461 (LL b x mo out t) [] := by
  obtain ⟨A, G, ob, B, Gm, th, f, hC, hR, ho, hg, hgm, hd⟩ := hLW
  refine V_aload_n C dL_law_461 (by rfl) ?_
  refine V_aload_n C dL_law_462 (by rfl) ?_
  refine V_iload C dL_law_463 (by rfl) ?_
  refine V_iconst C (nI 1) dL_law_465 (by decide) ?_
  refine V_iadd C dL_law_466 ?_
  refine V_top (nI_add _ _) ?_
  refine V_sld C hX hbl hbb (j := 4 * t + 1) (by omega) (by omega) dL_law_467 ?_
  refine V_aload_n C dL_law_468 (by rfl) ?_
  refine V_callSH C (As := [.ref x, .int (xs (4 * t + 1)), .ref out]) (h_stateOf l hl base D ct sa hC hI (by omega) ho hg (xs (4 * t + 1)) (iv_stateOf hI (xs (4 * t + 1)))) wh_stateOf rfl (by decide) (Nat.le_of_ble_eq_true rfl) ⟨show 200 + 5 * t + 2 ≤ 601024 by omega, show 14000 + 32 * t + 12 ≤ 7293034 by omega⟩ dL_law_469 (fun v9 M1 hP => ?_)
  obtain ⟨e9, hh1, hh2, f1, ho1, hf1⟩ := hP
  subst e9
  obtain ⟨hR1, A1, G1, ob1, hC1, hg1, hd1⟩ := LW_c hR ho hg hgm hd hh1 hh2
  refine VV.eqv (st' := [.int (nI (oStateOf σ (xs (4 * t + 1))).1)]) rfl rfl ?_
  refine V_istore C dL_law_472 (by decide) ?_
  refine V_aload_n C dL_law_474 (by rfl) ?_
  refine V_aload_n C dL_law_475 (by rfl) ?_
  refine V_iload C dL_law_476 (by rfl) ?_
  refine V_iconst C (nI 1) dL_law_478 (by decide) ?_
  refine V_iadd C dL_law_479 ?_
  refine V_top (nI_add _ _) ?_
  refine V_sld C hX hbl hbb (j := 4 * t + 1) (by omega) (by omega) dL_law_480 ?_
  refine V_callVx C (As := [.int (xs (4 * t + 1))]) (m_stateOf l hl base D ct sa hR1 hI (by omega) (xs (4 * t + 1))) w_L_84 hR1.1 rfl rfl (by decide) (Nat.le_of_ble_eq_true rfl) ⟨show 200 + 5 * t + 2 + 0 ≤ 601024 by omega, show 14000 + 32 * t + 12 + 0 ≤ 7293034 by omega⟩ dL_law_481 (fun ls9 hL9 E9 M9 ce9 q9 H9 locs9 h9 => h9.elim) (fun v8 M2 hQ => ?_)
  obtain ⟨rfl, hH⟩ := hQ
  obtain ⟨hLW2, ho2⟩ := LW_m hC1 (iv_stateOf hI (xs (4 * t + 1))) ho1 hg1 hgm hd1 hH
  refine VV.eqv (st' := [.int (oStateOf σ (xs (4 * t + 1))).2.1]) rfl rfl ?_
  refine V_istore C dL_law_484 (by decide) ?_
  refine V_aload_n C dL_law_486 (by rfl) ?_
  refine V_callVx C (As := []) (m_thrown l hl base D ct sa hH.1) w_L_59 hH.1.1 rfl rfl (by decide) (Nat.le_of_ble_eq_true rfl) ⟨show 200 + 5 * t + 2 + 0 + 0 ≤ 601024 by omega, show 14000 + 32 * t + 12 + 0 + 0 ≤ 7293034 by omega⟩ dL_law_487 (fun ls9 hL9 E9 M9 ce9 q9 H9 locs9 h9 => h9.elim) (fun v7 M3 hT => ?_)
  obtain ⟨rfl, rfl⟩ := hT
  refine VV.eqv (st' := [.int (nI (oStateOf σ (xs (4 * t + 1))).1)]) rfl rfl ?_
  refine V_iload C dL_law_490 (by rfl) ?_
  refine V_icmp_eq C 497 dL_law_492 (by decide) (fun h_492 => ?_) (fun h_492 => absurd h_492 (fun h => h rfl))
  refine V_iload C dL_law_497 (by rfl) ?_
  refine V_if_ne C 514 dL_law_499 (by decide) (fun h_499 => ?_) (fun h_499 => ?_)
  · refine V_goto C 736 dL_law_514 (by decide) ?_
    refine VV.loc (LL b x mo out t) ⟨rfl, rfl, rfl, rfl, rfl, trivial⟩ ?_
    exact next (oStateOf σ (xs (4 * t + 1))).2.2 M3 _ _ hLW2 (iv_stateOf hI (xs (4 * t + 1))) (show 200 + 5 * t + 2 + 0 + 0 ≤ _ by omega) (show 14000 + 32 * t + 12 + 0 + 0 ≤ _ by omega)
  · have hz := c0_1 (er_stateOf σ (xs (4 * t + 1))) h_499
    refine V_aload_n C dL_law_502 (by rfl) ?_
    refine V_iconst C (nI 0) dL_law_503 (by decide) ?_
    refine N_lald C ho2 (by decide) (by decide) dL_law_504 ?_
    refine V_iload C dL_law_505 (by rfl) ?_
    refine V_i2l C dL_law_507 ?_
    refine V_lcmp C dL_law_508 ?_
    refine V_top (y := 0) (by rw [hf1 hz]; exact lg_self _) ?_
    refine V_if_eq C 514 dL_law_509 (by decide) (fun h_509 => ?_) (fun h_509 => absurd h_509 (fun h => h rfl))
    refine V_goto C 736 dL_law_514 (by decide) ?_
    refine VV.loc (LL b x mo out t) ⟨rfl, rfl, rfl, rfl, rfl, trivial⟩ ?_
    exact next (oStateOf σ (xs (4 * t + 1))).2.2 M3 _ _ hLW2 (iv_stateOf hI (xs (4 * t + 1))) (show 200 + 5 * t + 2 + 0 + 0 ≤ _ by omega) (show 14000 + 32 * t + 12 + 0 + 0 ≤ _ by omega)
set_option maxHeartbeats 4000000 in
set_option maxRecDepth 100000 in
theorem law_push {p : Program} {l : Launch} {e : Env} {s : State} {m : MethodId} {below : List Frame} {meth : Method} {c : Code} {b L : Nat} {xs : Nat → Int32} {base : Nat} {D : va_G} {ct : Nat → ClassId} {sa : Nat → Nat} {x mo out t : Nat} {σ : Sg} {M : Mem} (hl : l.stackTraces = false) (C : Cx p l s m ([.ref b] : List Value).toArray meth c cL_law 7 RL base D ct sa) (hX : va_X b L xs s s.heap) (hbl : b < s.heap.size) (hbb : b < base) (hL : L ≤ 2048) (ht : 4 * t + 4 ≤ L) (hI : Inv t σ) (hLW : LW ct x mo out σ M)
    (next : ∀ (σ' : Sg) (M' : Mem) (k n : Nat), LW ct x mo out σ' M' → Inv (t + 1) σ' → k ≤ 205 + 5 * t → n ≤ 14032 + 32 * t → VL p l e s m below meth c base D b M' k n 736 (LL b x mo out t) []) : VL p l e s m below meth c base D b M (200 + 5 * t) (14000 + 32 * t) 517 (LL b x mo out t) [] := by
  obtain ⟨A, G, ob, B, Gm, th, f, hC, hR, ho, hg, hgm, hd⟩ := hLW
  refine V_aload_n C dL_law_517 (by rfl) ?_
  refine V_aload_n C dL_law_518 (by rfl) ?_
  refine V_callSH C (As := [.ref x, .ref out]) (h_push l hl base D ct sa hC hI (by omega) ho hg (iv_push hI )) wh_push rfl (by decide) (Nat.le_of_ble_eq_true rfl) ⟨show 200 + 5 * t + 3 ≤ 601024 by omega, show 14000 + 32 * t + 18 ≤ 7293034 by omega⟩ dL_law_519 (fun v9 M1 hP => ?_)
  obtain ⟨e9, hh1, hh2, f1, ho1, hf1⟩ := hP
  subst e9
  obtain ⟨hR1, A1, G1, ob1, hC1, hg1, hd1⟩ := LW_c hR ho hg hgm hd hh1 hh2
  refine VV.eqv (st' := [.int (nI (oPush σ).1)]) rfl rfl ?_
  refine V_istore C dL_law_522 (by decide) ?_
  refine V_aload_n C dL_law_524 (by rfl) ?_
  refine V_callVx C (As := []) (m_push l hl base D ct sa hR1 hI (by omega)) w_L_87 hR1.1 rfl rfl (by decide) (Nat.le_of_ble_eq_true rfl) ⟨show 200 + 5 * t + 3 + 0 ≤ 601024 by omega, show 14000 + 32 * t + 18 + 0 ≤ 7293034 by omega⟩ dL_law_525 (fun ls9 hL9 E9 M9 ce9 q9 H9 locs9 h9 => h9.elim) (fun v8 M2 hQ => ?_)
  obtain ⟨rfl, hH⟩ := hQ
  obtain ⟨hLW2, ho2⟩ := LW_m hC1 (iv_push hI ) ho1 hg1 hgm hd1 hH
  refine VV.eqv (st' := [.int (oPush σ).2.1]) rfl rfl ?_
  refine V_istore C dL_law_528 (by decide) ?_
  refine V_aload_n C dL_law_530 (by rfl) ?_
  refine V_callVx C (As := []) (m_thrown l hl base D ct sa hH.1) w_L_59 hH.1.1 rfl rfl (by decide) (Nat.le_of_ble_eq_true rfl) ⟨show 200 + 5 * t + 3 + 0 + 0 ≤ 601024 by omega, show 14000 + 32 * t + 18 + 0 + 0 ≤ 7293034 by omega⟩ dL_law_531 (fun ls9 hL9 E9 M9 ce9 q9 H9 locs9 h9 => h9.elim) (fun v7 M3 hT => ?_)
  obtain ⟨rfl, rfl⟩ := hT
  refine VV.eqv (st' := [.int (nI (oPush σ).1)]) rfl rfl ?_
  refine V_iload C dL_law_534 (by rfl) ?_
  refine V_icmp_eq C 541 dL_law_536 (by decide) (fun h_536 => ?_) (fun h_536 => absurd h_536 (fun h => h rfl))
  refine V_iload C dL_law_541 (by rfl) ?_
  refine V_if_ne C 558 dL_law_543 (by decide) (fun h_543 => ?_) (fun h_543 => ?_)
  · refine V_goto C 736 dL_law_558 (by decide) ?_
    refine VV.loc (LL b x mo out t) ⟨rfl, rfl, rfl, rfl, rfl, trivial⟩ ?_
    exact next (oPush σ).2.2 M3 _ _ hLW2 (iv_push hI ) (show 200 + 5 * t + 3 + 0 + 0 ≤ _ by omega) (show 14000 + 32 * t + 18 + 0 + 0 ≤ _ by omega)
  · have hz := c0_1 (er_push σ ) h_543
    refine V_aload_n C dL_law_546 (by rfl) ?_
    refine V_iconst C (nI 0) dL_law_547 (by decide) ?_
    refine N_lald C ho2 (by decide) (by decide) dL_law_548 ?_
    refine V_iload C dL_law_549 (by rfl) ?_
    refine V_i2l C dL_law_551 ?_
    refine V_lcmp C dL_law_552 ?_
    refine V_top (y := 0) (by rw [hf1 hz]; exact lg_self _) ?_
    refine V_if_eq C 558 dL_law_553 (by decide) (fun h_553 => ?_) (fun h_553 => absurd h_553 (fun h => h rfl))
    refine V_goto C 736 dL_law_558 (by decide) ?_
    refine VV.loc (LL b x mo out t) ⟨rfl, rfl, rfl, rfl, rfl, trivial⟩ ?_
    exact next (oPush σ).2.2 M3 _ _ hLW2 (iv_push hI ) (show 200 + 5 * t + 3 + 0 + 0 ≤ _ by omega) (show 14000 + 32 * t + 18 + 0 + 0 ≤ _ by omega)
set_option maxHeartbeats 4000000 in
set_option maxRecDepth 100000 in
theorem law_bytes {p : Program} {l : Launch} {e : Env} {s : State} {m : MethodId} {below : List Frame} {meth : Method} {c : Code} {b L : Nat} {xs : Nat → Int32} {base : Nat} {D : va_G} {ct : Nat → ClassId} {sa : Nat → Nat} {x mo out t : Nat} {σ : Sg} {M : Mem} (hl : l.stackTraces = false) (C : Cx p l s m ([.ref b] : List Value).toArray meth c cL_law 7 RL base D ct sa) (hX : va_X b L xs s s.heap) (hbl : b < s.heap.size) (hbb : b < base) (hL : L ≤ 2048) (ht : 4 * t + 4 ≤ L) (hI : Inv t σ) (hLW : LW ct x mo out σ M)
    (next : ∀ (σ' : Sg) (M' : Mem) (k n : Nat), LW ct x mo out σ' M' → Inv (t + 1) σ' → k ≤ 205 + 5 * t → n ≤ 14032 + 32 * t → VL p l e s m below meth c base D b M' k n 736 (LL b x mo out t) []) : VL p l e s m below meth c base D b M (200 + 5 * t) (14000 + 32 * t) 574 (LL b x mo out t) [] := by
  obtain ⟨A, G, ob, B, Gm, th, f, hC, hR, ho, hg, hgm, hd⟩ := hLW
  refine V_aload_n C dL_law_574 (by rfl) ?_
  refine V_aload_n C dL_law_575 (by rfl) ?_
  refine V_iload C dL_law_576 (by rfl) ?_
  refine V_iconst C (nI 1) dL_law_578 (by decide) ?_
  refine V_iadd C dL_law_579 ?_
  refine V_top (nI_add _ _) ?_
  refine V_sld C hX hbl hbb (j := 4 * t + 1) (by omega) (by omega) dL_law_580 ?_
  refine V_aload_n C dL_law_581 (by rfl) ?_
  refine V_iload C dL_law_582 (by rfl) ?_
  refine V_iconst C (nI 2) dL_law_584 (by decide) ?_
  refine V_iadd C dL_law_585 ?_
  refine V_top (nI_add _ _) ?_
  refine V_sld C hX hbl hbb (j := 4 * t + 2) (by omega) (by omega) dL_law_586 ?_
  refine V_aload_n C dL_law_587 (by rfl) ?_
  refine V_iload C dL_law_588 (by rfl) ?_
  refine V_iconst C (nI 3) dL_law_590 (by decide) ?_
  refine V_iadd C dL_law_591 ?_
  refine V_top (nI_add _ _) ?_
  refine V_sld C hX hbl hbb (j := 4 * t + 3) (by omega) (by omega) dL_law_592 ?_
  refine V_aload_n C dL_law_593 (by rfl) ?_
  refine V_callSH C (As := [.ref x, .int (xs (4 * t + 1)), .int (xs (4 * t + 2)), .int (xs (4 * t + 3)), .ref out]) (h_bytes l hl base D ct sa hC hI (by omega) ho hg (xs (4 * t + 1)) (xs (4 * t + 2)) (xs (4 * t + 3)) (iv_bytes hI (by omega) (xs (4 * t + 1)) (xs (4 * t + 2)) (xs (4 * t + 3)))) wh_bytes rfl (by decide) (Nat.le_of_ble_eq_true rfl) ⟨show 200 + 5 * t + 3 ≤ 601024 by omega, show 14000 + 32 * t + 18 ≤ 7293034 by omega⟩ dL_law_594 (fun v9 M1 hP => ?_)
  obtain ⟨e9, hh1, hh2, f1, ho1, hf1⟩ := hP
  subst e9
  obtain ⟨hR1, A1, G1, ob1, hC1, hg1, hd1⟩ := LW_c hR ho hg hgm hd hh1 hh2
  refine VV.eqv (st' := [.int (nI (oBytes σ (xs (4 * t + 1)) (xs (4 * t + 2)) (xs (4 * t + 3))).1)]) rfl rfl ?_
  refine V_istore C dL_law_597 (by decide) ?_
  refine V_aload_n C dL_law_599 (by rfl) ?_
  refine V_aload_n C dL_law_600 (by rfl) ?_
  refine V_iload C dL_law_601 (by rfl) ?_
  refine V_iconst C (nI 1) dL_law_603 (by decide) ?_
  refine V_iadd C dL_law_604 ?_
  refine V_top (nI_add _ _) ?_
  refine V_sld C hX hbl hbb (j := 4 * t + 1) (by omega) (by omega) dL_law_605 ?_
  refine V_aload_n C dL_law_606 (by rfl) ?_
  refine V_iload C dL_law_607 (by rfl) ?_
  refine V_iconst C (nI 2) dL_law_609 (by decide) ?_
  refine V_iadd C dL_law_610 ?_
  refine V_top (nI_add _ _) ?_
  refine V_sld C hX hbl hbb (j := 4 * t + 2) (by omega) (by omega) dL_law_611 ?_
  refine V_aload_n C dL_law_612 (by rfl) ?_
  refine V_iload C dL_law_613 (by rfl) ?_
  refine V_iconst C (nI 3) dL_law_615 (by decide) ?_
  refine V_iadd C dL_law_616 ?_
  refine V_top (nI_add _ _) ?_
  refine V_sld C hX hbl hbb (j := 4 * t + 3) (by omega) (by omega) dL_law_617 ?_
  refine V_callVx C (As := [.int (xs (4 * t + 1)), .int (xs (4 * t + 2)), .int (xs (4 * t + 3))]) (m_bytes l hl base D ct sa hR1 hI (by omega) (xs (4 * t + 1)) (xs (4 * t + 2)) (xs (4 * t + 3))) w_L_94 hR1.1 rfl rfl (by decide) (Nat.le_of_ble_eq_true rfl) ⟨show 200 + 5 * t + 3 + 0 ≤ 601024 by omega, show 14000 + 32 * t + 18 + 0 ≤ 7293034 by omega⟩ dL_law_618 (fun ls9 hL9 E9 M9 ce9 q9 H9 locs9 h9 => h9.elim) (fun v8 M2 hQ => ?_)
  obtain ⟨rfl, hH⟩ := hQ
  obtain ⟨hLW2, ho2⟩ := LW_m hC1 (iv_bytes hI (by omega) (xs (4 * t + 1)) (xs (4 * t + 2)) (xs (4 * t + 3))) ho1 hg1 hgm hd1 hH
  refine VV.eqv (st' := [.int (oBytes σ (xs (4 * t + 1)) (xs (4 * t + 2)) (xs (4 * t + 3))).2.1]) rfl rfl ?_
  refine V_istore C dL_law_621 (by decide) ?_
  refine V_aload_n C dL_law_623 (by rfl) ?_
  refine V_callVx C (As := []) (m_thrown l hl base D ct sa hH.1) w_L_59 hH.1.1 rfl rfl (by decide) (Nat.le_of_ble_eq_true rfl) ⟨show 200 + 5 * t + 3 + 0 + 0 ≤ 601024 by omega, show 14000 + 32 * t + 18 + 0 + 0 ≤ 7293034 by omega⟩ dL_law_624 (fun ls9 hL9 E9 M9 ce9 q9 H9 locs9 h9 => h9.elim) (fun v7 M3 hT => ?_)
  obtain ⟨rfl, rfl⟩ := hT
  refine VV.eqv (st' := [.int (nI (oBytes σ (xs (4 * t + 1)) (xs (4 * t + 2)) (xs (4 * t + 3))).1)]) rfl rfl ?_
  refine V_iload C dL_law_627 (by rfl) ?_
  refine V_icmp_eq C 634 dL_law_629 (by decide) (fun h_629 => ?_) (fun h_629 => absurd h_629 (fun h => h rfl))
  refine V_iload C dL_law_634 (by rfl) ?_
  refine V_if_ne C 651 dL_law_636 (by decide) (fun h_636 => ?_) (fun h_636 => ?_)
  · refine V_goto C 736 dL_law_651 (by decide) ?_
    refine VV.loc (LL b x mo out t) ⟨rfl, rfl, rfl, rfl, rfl, trivial⟩ ?_
    exact next (oBytes σ (xs (4 * t + 1)) (xs (4 * t + 2)) (xs (4 * t + 3))).2.2 M3 _ _ hLW2 (iv_bytes hI (by omega) (xs (4 * t + 1)) (xs (4 * t + 2)) (xs (4 * t + 3))) (show 200 + 5 * t + 3 + 0 + 0 ≤ _ by omega) (show 14000 + 32 * t + 18 + 0 + 0 ≤ _ by omega)
  · have hz := c0_2 (er_bytes σ (xs (4 * t + 1)) (xs (4 * t + 2)) (xs (4 * t + 3))) h_636
    refine V_aload_n C dL_law_639 (by rfl) ?_
    refine V_iconst C (nI 0) dL_law_640 (by decide) ?_
    refine N_lald C ho2 (by decide) (by decide) dL_law_641 ?_
    refine V_iload C dL_law_642 (by rfl) ?_
    refine V_i2l C dL_law_644 ?_
    refine V_lcmp C dL_law_645 ?_
    refine V_top (y := 0) (by rw [hf1 hz]; exact lg_self _) ?_
    refine V_if_eq C 651 dL_law_646 (by decide) (fun h_646 => ?_) (fun h_646 => absurd h_646 (fun h => h rfl))
    refine V_goto C 736 dL_law_651 (by decide) ?_
    refine VV.loc (LL b x mo out t) ⟨rfl, rfl, rfl, rfl, rfl, trivial⟩ ?_
    exact next (oBytes σ (xs (4 * t + 1)) (xs (4 * t + 2)) (xs (4 * t + 3))).2.2 M3 _ _ hLW2 (iv_bytes hI (by omega) (xs (4 * t + 1)) (xs (4 * t + 2)) (xs (4 * t + 3))) (show 200 + 5 * t + 3 + 0 + 0 ≤ _ by omega) (show 14000 + 32 * t + 18 + 0 + 0 ≤ _ by omega)
set_option maxHeartbeats 4000000 in
set_option maxRecDepth 100000 in
theorem law_old {p : Program} {l : Launch} {e : Env} {s : State} {m : MethodId} {below : List Frame} {meth : Method} {c : Code} {b L : Nat} {xs : Nat → Int32} {base : Nat} {D : va_G} {ct : Nat → ClassId} {sa : Nat → Nat} {x mo out t : Nat} {σ : Sg} {M : Mem} (hl : l.stackTraces = false) (C : Cx p l s m ([.ref b] : List Value).toArray meth c cL_law 7 RL base D ct sa) (hX : va_X b L xs s s.heap) (hbl : b < s.heap.size) (hbb : b < base) (hL : L ≤ 2048) (ht : 4 * t + 4 ≤ L) (hI : Inv t σ) (hLW : LW ct x mo out σ M)
    (next : ∀ (σ' : Sg) (M' : Mem) (k n : Nat), LW ct x mo out σ' M' → Inv (t + 1) σ' → k ≤ 205 + 5 * t → n ≤ 14032 + 32 * t → VL p l e s m below meth c base D b M' k n 736 (LL b x mo out t) []) : VL p l e s m below meth c base D b M (200 + 5 * t) (14000 + 32 * t) 667 (LL b x mo out t) [] := by
  obtain ⟨A, G, ob, B, Gm, th, f, hC, hR, ho, hg, hgm, hd⟩ := hLW
  refine V_aload_n C dL_law_667 (by rfl) ?_
  refine V_aload_n C dL_law_668 (by rfl) ?_
  refine V_iload C dL_law_669 (by rfl) ?_
  refine V_iconst C (nI 1) dL_law_671 (by decide) ?_
  refine V_iadd C dL_law_672 ?_
  refine V_top (nI_add _ _) ?_
  refine V_sld C hX hbl hbb (j := 4 * t + 1) (by omega) (by omega) dL_law_673 ?_
  refine V_aload_n C dL_law_674 (by rfl) ?_
  refine V_callSH C (As := [.ref x, .int (xs (4 * t + 1)), .ref out]) (h_old l hl base D ct sa hC hI (by omega) ho hg (xs (4 * t + 1)) (iv_old hI (xs (4 * t + 1)))) wh_old rfl (by decide) (Nat.le_of_ble_eq_true rfl) ⟨show 200 + 5 * t + 2 ≤ 601024 by omega, show 14000 + 32 * t + 12 ≤ 7293034 by omega⟩ dL_law_675 (fun v9 M1 hP => ?_)
  obtain ⟨e9, hh1, hh2, f1, ho1, hf1⟩ := hP
  subst e9
  obtain ⟨hR1, A1, G1, ob1, hC1, hg1, hd1⟩ := LW_c hR ho hg hgm hd hh1 hh2
  refine VV.eqv (st' := [.int (nI (oOld σ (xs (4 * t + 1))).1)]) rfl rfl ?_
  refine V_istore C dL_law_678 (by decide) ?_
  refine V_aload_n C dL_law_680 (by rfl) ?_
  refine V_aload_n C dL_law_681 (by rfl) ?_
  refine V_iload C dL_law_682 (by rfl) ?_
  refine V_iconst C (nI 1) dL_law_684 (by decide) ?_
  refine V_iadd C dL_law_685 ?_
  refine V_top (nI_add _ _) ?_
  refine V_sld C hX hbl hbb (j := 4 * t + 1) (by omega) (by omega) dL_law_686 ?_
  refine V_callVx C (As := [.int (xs (4 * t + 1))]) (m_old l hl base D ct sa hR1 hI (by omega) (xs (4 * t + 1))) w_L_101 hR1.1 rfl rfl (by decide) (Nat.le_of_ble_eq_true rfl) ⟨show 200 + 5 * t + 2 + 0 ≤ 601024 by omega, show 14000 + 32 * t + 12 + 0 ≤ 7293034 by omega⟩ dL_law_687 (fun ls9 hL9 E9 M9 ce9 q9 H9 locs9 h9 => h9.elim) (fun v8 M2 hQ => ?_)
  obtain ⟨rfl, hH⟩ := hQ
  obtain ⟨hLW2, ho2⟩ := LW_m hC1 (iv_old hI (xs (4 * t + 1))) ho1 hg1 hgm hd1 hH
  refine VV.eqv (st' := [.int (oOld σ (xs (4 * t + 1))).2.1]) rfl rfl ?_
  refine V_istore C dL_law_690 (by decide) ?_
  refine V_aload_n C dL_law_692 (by rfl) ?_
  refine V_callVx C (As := []) (m_thrown l hl base D ct sa hH.1) w_L_59 hH.1.1 rfl rfl (by decide) (Nat.le_of_ble_eq_true rfl) ⟨show 200 + 5 * t + 2 + 0 + 0 ≤ 601024 by omega, show 14000 + 32 * t + 12 + 0 + 0 ≤ 7293034 by omega⟩ dL_law_693 (fun ls9 hL9 E9 M9 ce9 q9 H9 locs9 h9 => h9.elim) (fun v7 M3 hT => ?_)
  obtain ⟨rfl, rfl⟩ := hT
  refine VV.eqv (st' := [.int (nI (oOld σ (xs (4 * t + 1))).1)]) rfl rfl ?_
  refine V_iload C dL_law_696 (by rfl) ?_
  refine V_icmp_eq C 703 dL_law_698 (by decide) (fun h_698 => ?_) (fun h_698 => absurd h_698 (fun h => h rfl))
  refine V_iload C dL_law_703 (by rfl) ?_
  refine V_if_ne C 720 dL_law_705 (by decide) (fun h_705 => ?_) (fun h_705 => ?_)
  · refine V_goto C 736 dL_law_720 (by decide) ?_
    refine VV.loc (LL b x mo out t) ⟨rfl, rfl, rfl, rfl, rfl, trivial⟩ ?_
    exact next (oOld σ (xs (4 * t + 1))).2.2 M3 _ _ hLW2 (iv_old hI (xs (4 * t + 1))) (show 200 + 5 * t + 2 + 0 + 0 ≤ _ by omega) (show 14000 + 32 * t + 12 + 0 + 0 ≤ _ by omega)
  · have hz := c0_1 (er_old σ (xs (4 * t + 1))) h_705
    refine V_aload_n C dL_law_708 (by rfl) ?_
    refine V_iconst C (nI 0) dL_law_709 (by decide) ?_
    refine N_lald C ho2 (by decide) (by decide) dL_law_710 ?_
    refine V_iload C dL_law_711 (by rfl) ?_
    refine V_i2l C dL_law_713 ?_
    refine V_lcmp C dL_law_714 ?_
    refine V_top (y := 0) (by rw [hf1 hz]; exact lg_self _) ?_
    refine V_if_eq C 720 dL_law_715 (by decide) (fun h_715 => ?_) (fun h_715 => absurd h_715 (fun h => h rfl))
    refine V_goto C 736 dL_law_720 (by decide) ?_
    refine VV.loc (LL b x mo out t) ⟨rfl, rfl, rfl, rfl, rfl, trivial⟩ ?_
    exact next (oOld σ (xs (4 * t + 1))).2.2 M3 _ _ hLW2 (iv_old hI (xs (4 * t + 1))) (show 200 + 5 * t + 2 + 0 + 0 ≤ _ by omega) (show 14000 + 32 * t + 12 + 0 + 0 ≤ _ by omega)
set_option maxHeartbeats 4000000 in
set_option maxRecDepth 100000 in
theorem law_restore {p : Program} {l : Launch} {e : Env} {s : State} {m : MethodId} {below : List Frame} {meth : Method} {c : Code} {b L : Nat} {xs : Nat → Int32} {base : Nat} {D : va_G} {ct : Nat → ClassId} {sa : Nat → Nat} {x mo out t : Nat} {σ : Sg} {M : Mem} (hl : l.stackTraces = false) (C : Cx p l s m ([.ref b] : List Value).toArray meth c cL_law 7 RL base D ct sa) (hX : va_X b L xs s s.heap) (hbl : b < s.heap.size) (hbb : b < base) (hL : L ≤ 2048) (ht : 4 * t + 4 ≤ L) (hI : Inv t σ) (hLW : LW ct x mo out σ M)
    (next : ∀ (σ' : Sg) (M' : Mem) (k n : Nat), LW ct x mo out σ' M' → Inv (t + 1) σ' → k ≤ 205 + 5 * t → n ≤ 14032 + 32 * t → VL p l e s m below meth c base D b M' k n 736 (LL b x mo out t) []) : VL p l e s m below meth c base D b M (200 + 5 * t) (14000 + 32 * t) 368 (LL b x mo out t) [] := by
  obtain ⟨A, G, ob, B, Gm, th, f, hC, hR, ho, hg, hgm, hd⟩ := hLW
  refine V_aload_n C dL_law_368 (by rfl) ?_
  refine V_aload_n C dL_law_369 (by rfl) ?_
  refine V_iload C dL_law_370 (by rfl) ?_
  refine V_iconst C (nI 1) dL_law_372 (by decide) ?_
  refine V_iadd C dL_law_373 ?_
  refine V_top (nI_add _ _) ?_
  refine V_sld C hX hbl hbb (j := 4 * t + 1) (by omega) (by omega) dL_law_374 ?_
  refine V_callVx C (As := [.int (xs (4 * t + 1))]) (c_restore l hl base D ct sa hC hI (by omega) (xs (4 * t + 1))) w_L_74 hC.1 rfl rfl (by decide) (Nat.le_of_ble_eq_true rfl) ⟨show 200 + 5 * t + 3 ≤ 601024 by omega, show 14000 + 32 * t + 18 ≤ 7293034 by omega⟩ dL_law_375 (fun ls9 hL9 E9 M9 ce9 q9 H9 locs9 h9 => h9.elim) (fun v9 M1 hP => ?_)
  obtain ⟨hh1, hh2⟩ := postC_h (out := out) hP
  have ho1 := postH_out hP ho hg
  obtain ⟨-, rfl, -⟩ := hP
  obtain ⟨hR1, A1, G1, ob1, hC1, hg1, hd1⟩ := LW_c hR ho hg hgm hd hh1 hh2
  refine VV.eqv (st' := [.int ((0, oRestore σ (xs (4 * t + 1))) : Nat × Int32 × Sg).2.1]) rfl rfl ?_
  refine V_aload_n C dL_law_378 (by rfl) ?_
  refine V_aload_n C dL_law_379 (by rfl) ?_
  refine V_iload C dL_law_380 (by rfl) ?_
  refine V_iconst C (nI 1) dL_law_382 (by decide) ?_
  refine V_iadd C dL_law_383 ?_
  refine V_top (nI_add _ _) ?_
  refine V_sld C hX hbl hbb (j := 4 * t + 1) (by omega) (by omega) dL_law_384 ?_
  refine V_callVx C (As := [.int (xs (4 * t + 1))]) (m_restore l hl base D ct sa hR1 hI (by omega) hC.2.2.1 (xs (4 * t + 1))) w_L_77 hR1.1 rfl rfl (by decide) (Nat.le_of_ble_eq_true rfl) ⟨show 200 + 5 * t + 3 + 0 ≤ 601024 by omega, show 14000 + 32 * t + 18 + 0 ≤ 7293034 by omega⟩ dL_law_385 (fun ls9 hL9 E9 M9 ce9 q9 H9 locs9 h9 => h9.elim) (fun v8 M2 hQ => ?_)
  obtain ⟨rfl, hH⟩ := hQ
  obtain ⟨hLW2, ho2⟩ := LW_m hC1 (iv_restore hI (xs (4 * t + 1))) ho1 hg1 hgm hd1 hH
  refine VV.eqv (st' := [.int ((0, oRestore σ (xs (4 * t + 1))) : Nat × Int32 × Sg).2.1, .int ((0, oRestore σ (xs (4 * t + 1))) : Nat × Int32 × Sg).2.1]) rfl rfl ?_
  refine V_icmp_eq C 736 dL_law_388 (by decide) (fun h_388 => ?_) (fun h_388 => absurd h_388 (fun h => h rfl))
  exact next ((0, oRestore σ (xs (4 * t + 1))) : Nat × Int32 × Sg).2.2 M2 _ _ hLW2 (iv_restore hI (xs (4 * t + 1))) (show 200 + 5 * t + 3 + 0 ≤ _ by omega) (show 14000 + 32 * t + 18 + 0 ≤ _ by omega)
set_option maxHeartbeats 4000000 in
set_option maxRecDepth 100000 in
theorem law_pop {p : Program} {l : Launch} {e : Env} {s : State} {m : MethodId} {below : List Frame} {meth : Method} {c : Code} {b L : Nat} {xs : Nat → Int32} {base : Nat} {D : va_G} {ct : Nat → ClassId} {sa : Nat → Nat} {x mo out t : Nat} {σ : Sg} {M : Mem} (hl : l.stackTraces = false) (C : Cx p l s m ([.ref b] : List Value).toArray meth c cL_law 7 RL base D ct sa) (hX : va_X b L xs s s.heap) (hbl : b < s.heap.size) (hbb : b < base) (hL : L ≤ 2048) (ht : 4 * t + 4 ≤ L) (hI : Inv t σ) (hLW : LW ct x mo out σ M)
    (next : ∀ (σ' : Sg) (M' : Mem) (k n : Nat), LW ct x mo out σ' M' → Inv (t + 1) σ' → k ≤ 205 + 5 * t → n ≤ 14032 + 32 * t → VL p l e s m below meth c base D b M' k n 736 (LL b x mo out t) []) : VL p l e s m below meth c base D b M (200 + 5 * t) (14000 + 32 * t) 561 (LL b x mo out t) [] := by
  obtain ⟨A, G, ob, B, Gm, th, f, hC, hR, ho, hg, hgm, hd⟩ := hLW
  refine V_aload_n C dL_law_561 (by rfl) ?_
  refine V_callVx C (As := []) (c_pop l hl base D ct sa hC hI (by omega) ) w_L_88 hC.1 rfl rfl (by decide) (Nat.le_of_ble_eq_true rfl) ⟨show 200 + 5 * t + 3 ≤ 601024 by omega, show 14000 + 32 * t + 18 ≤ 7293034 by omega⟩ dL_law_562 (fun ls9 hL9 E9 M9 ce9 q9 H9 locs9 h9 => h9.elim) (fun v9 M1 hP => ?_)
  obtain ⟨hh1, hh2⟩ := postC_h (out := out) hP
  have ho1 := postH_out hP ho hg
  obtain ⟨-, rfl, -⟩ := hP
  obtain ⟨hR1, A1, G1, ob1, hC1, hg1, hd1⟩ := LW_c hR ho hg hgm hd hh1 hh2
  refine VV.eqv (st' := [.int ((0, oPop σ) : Nat × Int32 × Sg).2.1]) rfl rfl ?_
  refine V_aload_n C dL_law_565 (by rfl) ?_
  refine V_callVx C (As := []) (m_pop l hl base D ct sa hR1 hI (by omega) ) w_L_91 hR1.1 rfl rfl (by decide) (Nat.le_of_ble_eq_true rfl) ⟨show 200 + 5 * t + 3 + 0 ≤ 601024 by omega, show 14000 + 32 * t + 18 + 0 ≤ 7293034 by omega⟩ dL_law_566 (fun ls9 hL9 E9 M9 ce9 q9 H9 locs9 h9 => h9.elim) (fun v8 M2 hQ => ?_)
  obtain ⟨rfl, hH⟩ := hQ
  obtain ⟨hLW2, ho2⟩ := LW_m hC1 (iv_pop hI) ho1 hg1 hgm hd1 hH
  refine VV.eqv (st' := [.int ((0, oPop σ) : Nat × Int32 × Sg).2.1, .int ((0, oPop σ) : Nat × Int32 × Sg).2.1]) rfl rfl ?_
  refine V_icmp_eq C 736 dL_law_569 (by decide) (fun h_569 => ?_) (fun h_569 => absurd h_569 (fun h => h rfl))
  exact next ((0, oPop σ) : Nat × Int32 × Sg).2.2 M2 _ _ hLW2 (iv_pop hI) (show 200 + 5 * t + 3 + 0 ≤ _ by omega) (show 14000 + 32 * t + 18 + 0 ≤ _ by omega)
set_option maxHeartbeats 4000000 in
set_option maxRecDepth 100000 in
theorem law_used {p : Program} {l : Launch} {e : Env} {s : State} {m : MethodId} {below : List Frame} {meth : Method} {c : Code} {b L : Nat} {xs : Nat → Int32} {base : Nat} {D : va_G} {ct : Nat → ClassId} {sa : Nat → Nat} {x mo out t : Nat} {σ : Sg} {M : Mem} (hl : l.stackTraces = false) (C : Cx p l s m ([.ref b] : List Value).toArray meth c cL_law 7 RL base D ct sa) (hX : va_X b L xs s s.heap) (hbl : b < s.heap.size) (hbb : b < base) (hL : L ≤ 2048) (ht : 4 * t + 4 ≤ L) (hI : Inv t σ) (hLW : LW ct x mo out σ M)
    (next : ∀ (σ' : Sg) (M' : Mem) (k n : Nat), LW ct x mo out σ' M' → Inv (t + 1) σ' → k ≤ 205 + 5 * t → n ≤ 14032 + 32 * t → VL p l e s m below meth c base D b M' k n 736 (LL b x mo out t) []) : VL p l e s m below meth c base D b M (200 + 5 * t) (14000 + 32 * t) 654 (LL b x mo out t) [] := by
  obtain ⟨A, G, ob, B, Gm, th, f, hC, hR, ho, hg, hgm, hd⟩ := hLW
  refine V_aload_n C dL_law_654 (by rfl) ?_
  refine V_callVx C (As := []) (c_used l hl base D ct sa hC hI (by omega) ) w_L_95 hC.1 rfl rfl (by decide) (Nat.le_of_ble_eq_true rfl) ⟨show 200 + 5 * t + 2 ≤ 601024 by omega, show 14000 + 32 * t + 12 ≤ 7293034 by omega⟩ dL_law_655 (fun ls9 hL9 E9 M9 ce9 q9 H9 locs9 h9 => h9.elim) (fun v9 M1 hP => ?_)
  obtain ⟨hh1, hh2⟩ := postC_h (out := out) hP
  have ho1 := postH_out hP ho hg
  obtain ⟨-, rfl, -⟩ := hP
  obtain ⟨hR1, A1, G1, ob1, hC1, hg1, hd1⟩ := LW_c hR ho hg hgm hd hh1 hh2
  refine VV.eqv (st' := [.int ((0, oUsed σ, σ) : Nat × Int32 × Sg).2.1]) rfl rfl ?_
  refine V_aload_n C dL_law_658 (by rfl) ?_
  refine V_callVx C (As := []) (m_used l hl base D ct sa hR1 hI (by omega) ) w_L_98 hR1.1 rfl rfl (by decide) (Nat.le_of_ble_eq_true rfl) ⟨show 200 + 5 * t + 2 + 0 ≤ 601024 by omega, show 14000 + 32 * t + 12 + 0 ≤ 7293034 by omega⟩ dL_law_659 (fun ls9 hL9 E9 M9 ce9 q9 H9 locs9 h9 => h9.elim) (fun v8 M2 hQ => ?_)
  obtain ⟨rfl, hH⟩ := hQ
  obtain ⟨hLW2, ho2⟩ := LW_m hC1 (hI.mono (Nat.le_succ _)) ho1 hg1 hgm hd1 hH
  refine VV.eqv (st' := [.int ((0, oUsed σ, σ) : Nat × Int32 × Sg).2.1, .int ((0, oUsed σ, σ) : Nat × Int32 × Sg).2.1]) rfl rfl ?_
  refine V_icmp_eq C 736 dL_law_662 (by decide) (fun h_662 => ?_) (fun h_662 => absurd h_662 (fun h => h rfl))
  exact next ((0, oUsed σ, σ) : Nat × Int32 × Sg).2.2 M2 _ _ hLW2 (hI.mono (Nat.le_succ _)) (show 200 + 5 * t + 2 + 0 ≤ _ by omega) (show 14000 + 32 * t + 12 + 0 ≤ _ by omega)
set_option maxHeartbeats 4000000 in
set_option maxRecDepth 100000 in
theorem law_deepest {p : Program} {l : Launch} {e : Env} {s : State} {m : MethodId} {below : List Frame} {meth : Method} {c : Code} {b L : Nat} {xs : Nat → Int32} {base : Nat} {D : va_G} {ct : Nat → ClassId} {sa : Nat → Nat} {x mo out t : Nat} {σ : Sg} {M : Mem} (hl : l.stackTraces = false) (C : Cx p l s m ([.ref b] : List Value).toArray meth c cL_law 7 RL base D ct sa) (hX : va_X b L xs s s.heap) (hbl : b < s.heap.size) (hbb : b < base) (hL : L ≤ 2048) (ht : 4 * t + 4 ≤ L) (hI : Inv t σ) (hLW : LW ct x mo out σ M)
    (next : ∀ (σ' : Sg) (M' : Mem) (k n : Nat), LW ct x mo out σ' M' → Inv (t + 1) σ' → k ≤ 205 + 5 * t → n ≤ 14032 + 32 * t → VL p l e s m below meth c base D b M' k n 736 (LL b x mo out t) []) : VL p l e s m below meth c base D b M (200 + 5 * t) (14000 + 32 * t) 723 (LL b x mo out t) [] := by
  obtain ⟨A, G, ob, B, Gm, th, f, hC, hR, ho, hg, hgm, hd⟩ := hLW
  refine V_aload_n C dL_law_723 (by rfl) ?_
  refine V_callVx C (As := []) (c_deepest l hl base D ct sa hC hI (by omega) ) w_L_102 hC.1 rfl rfl (by decide) (Nat.le_of_ble_eq_true rfl) ⟨show 200 + 5 * t + 2 ≤ 601024 by omega, show 14000 + 32 * t + 12 ≤ 7293034 by omega⟩ dL_law_724 (fun ls9 hL9 E9 M9 ce9 q9 H9 locs9 h9 => h9.elim) (fun v9 M1 hP => ?_)
  obtain ⟨hh1, hh2⟩ := postC_h (out := out) hP
  have ho1 := postH_out hP ho hg
  obtain ⟨-, rfl, -⟩ := hP
  obtain ⟨hR1, A1, G1, ob1, hC1, hg1, hd1⟩ := LW_c hR ho hg hgm hd hh1 hh2
  refine VV.eqv (st' := [.int ((0, nI (gDeep σ), σ) : Nat × Int32 × Sg).2.1]) rfl rfl ?_
  refine V_aload_n C dL_law_727 (by rfl) ?_
  refine V_callVx C (As := []) (m_deepest l hl base D ct sa hR1 hI (by omega) ) w_L_105 hR1.1 rfl rfl (by decide) (Nat.le_of_ble_eq_true rfl) ⟨show 200 + 5 * t + 2 + 0 ≤ 601024 by omega, show 14000 + 32 * t + 12 + 0 ≤ 7293034 by omega⟩ dL_law_728 (fun ls9 hL9 E9 M9 ce9 q9 H9 locs9 h9 => h9.elim) (fun v8 M2 hQ => ?_)
  obtain ⟨rfl, hH⟩ := hQ
  obtain ⟨hLW2, ho2⟩ := LW_m hC1 (hI.mono (Nat.le_succ _)) ho1 hg1 hgm hd1 hH
  refine VV.eqv (st' := [.int ((0, nI (gDeep σ), σ) : Nat × Int32 × Sg).2.1, .int ((0, nI (gDeep σ), σ) : Nat × Int32 × Sg).2.1]) rfl rfl ?_
  refine V_icmp_eq C 736 dL_law_731 (by decide) (fun h_731 => ?_) (fun h_731 => absurd h_731 (fun h => h rfl))
  exact next ((0, nI (gDeep σ), σ) : Nat × Int32 × Sg).2.2 M2 _ _ hLW2 (hI.mono (Nat.le_succ _)) (show 200 + 5 * t + 2 + 0 ≤ _ by omega) (show 14000 + 32 * t + 12 + 0 ≤ _ by omega)
