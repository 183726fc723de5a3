/-! THE LAW: bodies with handlers, calls of them, the script, the switch; what the two pictures keep -/
theorem RepC.same {ct : Nat → ClassId} {A : Nat → Nat → Nat} {G ob : Nat → Nat} {σ : Sg} {M M' : Mem} {x B : Nat} (hC : RepC ct A G ob σ M x) (hI : Inv B σ) (h : ∀ a, G a ≠ 0 → M' a = M a) : RepC ct A G ob σ M' x := by
  obtain ⟨hx0, hG, hO, ⟨⟨tf, a1, a2⟩, ⟨s9, a3, a4⟩, a5, ⟨uf, a6, a7⟩, a8⟩, hT, hS, hR⟩ := hC
  have g : ∀ k, 1 ≤ k → k < 5 → M' (A k 0) = M (A k 0) := fun k h1 h2 => h _ (by rw [hG.2.1 k h1 h2]; omega)
  refine ⟨by rw [h x (by rw [hG.1]; decide)]; exact hx0, hG, hO, ⟨⟨tf, by rw [g 1 (by decide) (by decide)]; exact a1, a2⟩, ⟨s9, by rw [g 2 (by decide) (by decide)]; exact a3, a4⟩, a5.same (g 3 (by decide) (by decide)), ⟨uf, by rw [g 4 (by decide) (by decide)]; exact a6, a7⟩, fun k hk => ?_⟩, fun o ho => ?_, fun k hk => ?_, fun k r h1 h2 h3 => ?_⟩
  · obtain ⟨f, q1, q2⟩ := a8 k hk
    exact ⟨f, by rw [h _ (by rw [hG.2.2.1 k hk]; omega)]; exact q1, q2⟩
  · have t := hG.2.2.2.2.1 o ho
    exact (hT o ho).mv (h _ (by rw [t.1]; omega)) (h _ (by rw [t.2.1]; omega)) (h _ (by rw [t.2.2.1]; omega)) (h _ (by rw [t.2.2.2]; omega)) rfl (fun _ _ => rfl) (fun _ _ => rfl) (fun _ _ => rfl)
  · have t := hG.2.2.2.1 k hk
    exact (hS k hk).mv (h _ (by rw [t.1]; omega)) (h _ (by rw [t.2]; omega)) rfl rfl rfl rfl (fun _ _ => rfl) rfl rfl
  · exact (hR k r h1 h2 h3).mv (h _ (by rw [hG.2.2.2.2.2 r (Nat.lt_of_lt_of_le h3 (rbx_le hI _))]; omega)) rfl rfl rfl rfl
theorem RepM.same {ct : Nat → ClassId} {B G : Nat → Nat} {σ : Sg} {th : Int32} {M M' : Mem} {mo : Nat} (hR : RepM ct B G σ th M mo) (h : ∀ a, G a ≠ 0 → M' a = M a) : RepM ct B G σ th M' mo := by
  obtain ⟨h1, ⟨h2, h3⟩, h4⟩ := hR
  refine ⟨by rw [h mo (by rw [h2]; decide)]; exact h1, ⟨h2, fun a ha => by rw [h a ha]; exact h3 a ha⟩, fun k t N g hk => ?_⟩
  obtain ⟨g1, f, g2, g3⟩ := h4 k t N g hk
  exact ⟨g1, f, by rw [h _ (by rw [g1]; omega)]; exact g2, g3⟩
/-- a body with handlers -/
theorem CT.ofH {l : Launch} {y : MethodName} {cc : ByteArray} {nL : Nat} {ret : Option FieldType} {hh : List (Nat × Nat × Nat × Nat)} {rm : Room} {base : Nat} {D : va_G} {ct : Nat → ClassId} {sa : Nat → Nat} {M : Mem} {av : List Value} {post : Option Value → Mem → Prop} {px : String → Mem → Prop} (hl : l.stackTraces = false) (hy : plainName y.cls = true) (hlen : (lg_sl av).length ≤ nL)
    (body : ∀ p e s m below meth c, Cx p l s m av.toArray meth c cc nL y.cls base D ct sa → meth.sig.returnType = ret → c.exceptionTable.toList = tableOf hh → VV p l e rm s m av.toArray below meth c nL base D (QB base D post px below av.toArray s rm.cells rm.slots) M 0 0 0 (lv_args 0 av) []) :
    CT l y (.codeWith y cc nL ret hh :: WL) rm base D ct sa M av post px := by
  refine vx_ofWH (cc := cc) (maxL := nL) (ret := ret) (hh := hh) hy rfl ?_
  intro p e s m args below meth c s₁ B hml hv
  obtain ⟨rfl, hE, hW⟩ := hv
  have hts := atoms_spec (ws := .codeWith y cc nL ret hh :: WL) B.pre
  have hown : s.vm.findClass y.cls = some m.cls := findClass_of_methodNamed B.named
  have K := body p e s m below meth c ⟨B.exec, B.bytes, hml, hown, fun w hw => hts w (List.mem_cons_of_mem _ hw), hE, B.notSynchronized, hl⟩ B.returns (vx_table (x := y) B (hts _ List.mem_cons_self))
  have hl9 := lv_entry av (n := nL) hlen
  rw [lg_entry_eq]
  exact K s.heap [] _ hW va_S.rf hl9
/-- the words of a static call of such a body -/
def WSH (own : String) (idx : Nat) (y : MethodName) (bytes : ByteArray) (maxL : Nat) (ret : Option FieldType) (hh : List (Nat × Nat × Nat × Nat)) (np : Nat) : Prop :=
  (Cond.methodLink own idx y ∈ WL ∧ Cond.static y ∈ WL ∧ Cond.initialized y.cls ∈ WL ∧ Cond.codeWith y bytes maxL ret hh ∈ WL) ∧ (y.cls ≠ "java/lang/invoke/MethodHandle" ∧ y.cls ≠ "java/lang/invoke/VarHandle" ∧ (parseMethodDescriptor y.desc).map (fun d => d.parameters.length) = some np)
section
variable {p : Program} {l : Launch} {e : Env} {R : Room} {s : State} {m : MethodId} {args : Array Value} {below : List Frame} {meth : Method} {c : Code} {cc : ByteArray} {nL base : Nat} {own : String} {D : va_G} {ct : Nat → ClassId} {sa : Nat → Nat} {Q : State → Prop} {M : Mem} {k n pc : Nat} {lv : List (Nat × Value)} {st : List Value}
/-- a static call of such a body; nothing comes out of it -/
theorem V_callSH (C : Cx p l s m args meth c cc nL own base D ct sa) {idx np maxL : Nat} {y : MethodName} {bytes : ByteArray} {ret : Option FieldType} {hh : List (Nat × Nat × Nat × Nat)} {rm : Room} {As : List Value} {post : Option Value → Mem → Prop}
    (hM : CT l y (.codeWith y bytes maxL ret hh :: WL) rm base D ct sa M As post noX) (w : WSH own idx y bytes maxL ret hh np) (hn : As.length = np) (hR : rm.frames + 1 ≤ R.frames ∧ 8 + (maxL + 11) + rm.locals ≤ R.locals) (hcat : (st.map fun v => v.category).sum ≤ 8) (hf : k + rm.cells ≤ R.cells ∧ n + rm.slots ≤ R.slots) (hd : decode cc pc = .ok (.invokestatic idx, 3))
    (kk : ∀ (v : Option Value) (M' : Mem), post v M' → VV p l e R s m args below meth c nL base D Q M' (k + rm.cells) (n + rm.slots) (pc + 3) lv (v.toList ++ st)) : VV p l e R s m args below meth c nL base D Q M k n pc lv (As.reverse ++ st) := by
  intro H locs ls hW hS hL
  obtain ⟨⟨w1, w2, w4, w5⟩, w6⟩ := w
  have hG : GoodIn WL (va_wsS own idx y (.codeWith y bytes maxL ret hh :: WL)) := good_WL w5 (fun w hw => by
    simp only [List.mem_cons, List.not_mem_nil, or_false] at hw
    rcases hw with rfl | rfl | rfl
    · exact w1
    · exact w2
    · exact w4)
  have cw := vx_cwSW (R := R) (s := s) (args := args) (rm := rm) np C.2.2.2.2.1 hG rfl rfl rfl w6 hR
  exact VV.run (vx_runSX (Ts := WL) (As := As) ⟨C.1, C.2.1, C.2.2.1, C.2.2.2.1, C.2.2.2.2.1⟩ hM cw ⟨PreG.blind, PreG.here C hW hS _⟩ rfl hn hL.1 rfl (catF hcat) hd hf) hS hL (fun E M' ce q9 H1 locs1 h => h.elim) kk
/-- caught: by the handler q, past pre -/
theorem V_catch (C : Cx p l s m args meth c cc nL own base D ct sa) {hh : List (Nat × Nat × Nat × Nat)} (ht : c.exceptionTable.toList = tableOf hh) (pre : List (Nat × Nat × Nat × Nat)) (q : Nat × Nat × Nat × Nat) (suf : List (Nat × Nat × Nat × Nat)) (hs : hh = pre ++ q :: suf) {E : String}
    (hpass : ∀ z ∈ pre, z.2.2.2 ≠ 0 ∧ ∃ nm : String, Cond.classLink own z.2.2.2 nm ∈ WL ∧ va_Nc E nm s) (hcov : q.1 ≤ pc ∧ pc < q.2.1) (h0 : q.2.2.2 ≠ 0) (hl : Cond.classLink own q.2.2.2 E ∈ WL) (hcast : Cond.castable E E ∈ NGl)
    (kk : ∀ q9 : Nat, VV p l e R s m args below meth c nL base D Q M k n q.2.2.1 lv [.ref q9]) {ls : Array Slot} (hL : lv_has ls nL lv) {ce : Cell} {q9 : Addr} {H1 : Heap} {locs1 : List Loc} (hW : Wd base D M H1) (hS : va_S (Ab base) s.heap H1 locs1) (h4 : H1[q9]? = some ce) (h5 : ce.vm = .none) (h6 : s.vm.findClass E = some ce.cls) :
    vx_W p l e R s m args below meth c H1 locs1 k n Q (F0 m pc ls st) q9 := by
  have hc9 : va_Nw (.castable E E) s := C.2.2.2.2.2.1.2.2.2.1 _ hcast
  refine vx_catch (name := E) C.2.2.2.1 (tableOf pre) ⟨q.1, q.2.1, q.2.2.1, q.2.2.2⟩ (tableOf suf) (by rw [ht, hs]; simp [tableOf]) (fun z hz => ?_) (by simp [covers, hcov.1, hcov.2]) h0 (C.2.2.2.2.1 _ hl) (va_Nw.use rfl hc9) h4 h5 h6 (kk q9 H1 locs1 ls hW hS hL)
  obtain ⟨z0, hz0, rfl⟩ := List.mem_map.mp hz
  obtain ⟨g1, nm, g2, g3⟩ := hpass z0 hz0
  exact Or.inr ⟨g1, nm, C.2.2.2.2.1 _ g2, g3⟩
/-- the script -/
theorem V_sld (C : Cx p l s m args meth c cc nL own base D ct sa) {b L j : Nat} {xs : Nat → Int32} (hX : va_X b L xs s s.heap) (hbl : b < s.heap.size) (hbb : b < base) (hj : j < L) (hL0 : L < 2 ^ 31) (hd : decode cc pc = .ok (.iaload, 1)) (kk : VV p l e R s m args below meth c nL base D Q M k n (pc + 1) lv (.int (xs j) :: st)) : VV p l e R s m args below meth c nL base D Q M k n pc lv (.int (nI j) :: .ref b :: st) := by
  intro H locs ls hW hS hL
  refine va_sld C.1 C.2.1 hX hbl (fun h => absurd h (Nat.not_le.mpr hbb)) hS (vp_inN hj hL0) hd ?_
  rw [nI_clamp (Nat.lt_trans hj hL0)]
  exact kk H locs ls hW hS hL
theorem V_slen (C : Cx p l s m args meth c cc nL own base D ct sa) {b L : Nat} {xs : Nat → Int32} (hX : va_X b L xs s s.heap) (hbl : b < s.heap.size) (hbb : b < base) (hd : decode cc pc = .ok (.arraylength, 1)) (kk : VV p l e R s m args below meth c nL base D Q M k n (pc + 1) lv (.int (nI L) :: st)) : VV p l e R s m args below meth c nL base D Q M k n pc lv (.ref b :: st) := by
  intro H locs ls hW hS hL
  exact va_slen C.1 C.2.1 hX hbl (fun h => absurd h (Nat.not_le.mpr hbb)) hS hd (kk H locs ls hW hS hL)
theorem V_swOut (C : Cx p l s m args meth c cc nL own base D ct sa) {dflt lo hi : Int} {offs : Array Int} {len : Nat} {x : Int32} (tgt : Nat) (hd : decode cc pc = .ok (.tableswitch dflt lo hi offs, len)) (h : x.toInt < lo ∨ hi < x.toInt) (ht : (pc : Int) + dflt = (tgt : Int)) (kk : VV p l e R s m args below meth c nL base D Q M k n tgt lv st) : VV p l e R s m args below meth c nL base D Q M k n pc lv (.int x :: st) := by
  intro H locs ls hW hS hL
  exact lv_tableOut C.1 C.2.1 hd h ht (kk H locs ls hW hS hL)
theorem V_swIn (C : Cx p l s m args meth c cc nL own base D ct sa) {dflt lo hi : Int} {offs : Array Int} {len : Nat} {x : Int32} {off : Int} (tgt : Nat) (hd : decode cc pc = .ok (.tableswitch dflt lo hi offs, len)) (h1 : ¬ x.toInt < lo) (h2 : ¬ hi < x.toInt) (ho : offs[(x.toInt - lo).toNat]? = some off) (ht : (pc : Int) + off = (tgt : Int)) (kk : VV p l e R s m args below meth c nL base D Q M k n tgt lv st) : VV p l e R s m args below meth c nL base D Q M k n pc lv (.int x :: st) := by
  intro H locs ls hW hS hL
  exact lv_tableIn C.1 C.2.1 hd h1 h2 ho ht (kk H locs ls hW hS hL)
end
