/-! calls, returns, throws, bodies -/
/-- the words of a call: invokevirtual, invokestatic, invokespecial <init> -/
def WV (own : String) (idx : Nat) (Cn : String) (y : MethodName) (bytes : ByteArray) (maxL : Nat) (ret : Option FieldType) (np : Nat) : Prop :=
  ((Cond.methodLink own idx y ∈ WL ∧ Cond.instanceMethod y ∈ WL) ∧ Cond.selects Cn y y ∈ WL ∧ Cond.initialized Cn ∈ WL ∧ Cond.code y bytes maxL ret ∈ WL) ∧ (y.cls = Cn ∧ y.cls ≠ "java/lang/invoke/MethodHandle" ∧ y.cls ≠ "java/lang/invoke/VarHandle" ∧ (parseMethodDescriptor y.desc).map (fun d => d.parameters.length) = some np)
def WS (own : String) (idx : Nat) (y : MethodName) (bytes : ByteArray) (maxL : Nat) (ret : Option FieldType) (np : Nat) : Prop :=
  (Cond.methodLink own idx y ∈ WL ∧ Cond.static y ∈ WL ∧ Cond.initialized own ∈ WL ∧ Cond.code y bytes maxL ret ∈ WL) ∧ (y.cls = own ∧ y.cls ≠ "java/lang/invoke/MethodHandle" ∧ y.cls ≠ "java/lang/invoke/VarHandle" ∧ (parseMethodDescriptor y.desc).map (fun d => d.parameters.length) = some np)
def WI (own : String) (idx : Nat) (y : MethodName) (bytes : ByteArray) (maxL : Nat) (np : Nat) : Prop :=
  (Cond.methodLink own idx y ∈ WL ∧ Cond.instanceMethod y ∈ WL ∧ Cond.initialized y.cls ∈ WL ∧ Cond.code y bytes maxL none ∈ WL) ∧ y.name = "<init>" ∧ (y.cls ≠ "java/lang/invoke/MethodHandle" ∧ y.cls ≠ "java/lang/invoke/VarHandle" ∧ (parseMethodDescriptor y.desc).map (fun d => d.parameters.length) = some np)
theorem good_WL {c : Cond} (h : c ∈ WL) {L : List Cond} (hL : ∀ w ∈ L, w ∈ WL) : GoodIn WL (L ++ (c :: WL)) := fun w hw => by
  have : w ∈ WL := by
    rcases List.mem_append.mp hw with hw | hw
    · exact hL w hw
    · rcases List.mem_cons.mp hw with rfl | hw
      · exact h
      · exact hw
  exact ⟨this, good_of_word (WL_good this)⟩
section
variable {p : Program} {l : Launch} {e : Env} {R : Room} {s : State} {m : MethodId} {args : Array Value} {below : List Frame} {meth : Method} {c : Code} {cc : ByteArray} {nL base : Nat} {own : String} {D : va_G} {ct : Nat → ClassId} {sa : Nat → Nat} {Q : State → Prop} {M : Mem} {k n pc : Nat} {lv : List (Nat × Value)} {st : List Value}
/-- the callee's start holds here -/
theorem PreG.here (C : Cx p l s m args meth c cc nL own base D ct sa) {H : Heap} {locs : List Loc} (hW : Wd base D M H) (hS : va_S (Ab base) s.heap H locs) (av : List Value) : ∀ U : State, U.heap = H → s.WarmedH U.vm → PreG base D ct sa M av av.toArray U := by
  intro U hU hv
  subst hU
  exact ⟨rfl, C.2.2.2.2.2.1.moved hv hS, hW⟩
/-- what comes of a run that may throw -/
theorem VV.run {mc ms : Nat} {H : Heap} {locs : List Loc} {ls : Array Slot} {st0 : List Value} {a : Array Value} {post : Option Value → Mem → Prop} {px : String → Mem → Prop} (hr : vx_Run p l e R s m args below meth c H locs k n mc ms (F0 m pc ls st0) st (PQ base D post a) (PX base D px) (Ab base)) (hS : va_S (Ab base) s.heap H locs) (hL : lv_has ls nL lv)
    (kx : ∀ (E : String) (M' : Mem) (ce : Cell) (q9 : Addr) (H1 : Heap) (locs1 : List Loc), px E M' → Wd base D M' H1 → va_S (Ab base) s.heap H1 locs1 → H1[q9]? = some ce → ce.vm = .none → s.vm.findClass E = some ce.cls → vx_W p l e R s m args below meth c H1 locs1 (k + mc) (n + ms) Q (F0 m pc ls st) q9)
    (kk : ∀ (v : Option Value) (M' : Mem), post v M' → VV p l e R s m args below meth c nL base D Q M' (k + mc) (n + ms) (pc + 3) lv (v.toList ++ st)) : W p l e R s m args below meth c H locs k n Q (F0 m pc ls st0) := by
  intro T hT X
  rcases hr T hT X with ⟨v, st₀, t, T', L, h0, X', hL', e1, e2, ⟨⟨v', M', hv, hp, hb⟩, hF⟩, st'⟩ | ⟨q, st₀, t, T', L, E, ce, h0, X', hL', e1, e2, ⟨M', hp, hb, hF⟩, hce, hcv, hcl, st'⟩
  · cases hv
    obtain ⟨k1, k2, k3⟩ := vx_keep h0 e1 hS (fun q _ h => h) (fun q h => h) hL' hF
    obtain ⟨t2, a1, b1⟩ := kk v M' hp T'.heap (locs ++ L) ls (by rw [e1]; exact hb) k3 hL T' rfl X'
    exact ⟨t2, st' t2 a1, b1⟩
  · obtain ⟨k1, k2, k3⟩ := vx_keep h0 e1 hS (fun q _ h => h) (fun q h => h) hL' hF
    obtain ⟨t2, a1, b1⟩ := kx E M' ce q T'.heap (locs ++ L) hp (by rw [e1]; exact hb) k3 (by rw [e1]; exact hce) hcv hcl T' rfl X'
    exact ⟨t2, st'.trans a1, b1⟩
/-- .. that doesn't throw -/
theorem VV.runM {mc ms : Nat} {H : Heap} {locs : List Loc} {ls : Array Slot} {st0 : List Value} {a : Array Value} {post : Option Value → Mem → Prop} (hr : va_Run p l e R s m args below meth c H locs k n mc ms (F0 m pc ls st0) st (PQ base D post a) (Ab base)) (hS : va_S (Ab base) s.heap H locs) (hL : lv_has ls nL lv)
    (kk : ∀ (v : Option Value) (M' : Mem), post v M' → VV p l e R s m args below meth c nL base D Q M' (k + mc) (n + ms) (pc + 3) lv (v.toList ++ st)) : W p l e R s m args below meth c H locs k n Q (F0 m pc ls st0) := by
  intro T hT X
  obtain ⟨v, st₀, t, T', L, h0, X', hL', e1, e2, ⟨⟨v', M', hv, hp, hb⟩, hF⟩, st'⟩ := hr T hT X
  cases hv
  obtain ⟨k1, k2, k3⟩ := vx_keep h0 e1 hS (fun q _ h => h) (fun q h => h) hL' hF
  obtain ⟨t2, a1, b1⟩ := kk v M' hp T'.heap (locs ++ L) ls (by rw [e1]; exact hb) k3 hL T' rfl X'
  exact ⟨t2, st' t2 a1, b1⟩
theorem catF {m : MethodId} {pc : Nat} {ls : Array Slot} {st0 st : List Value} (h : (st.map fun v => v.category).sum ≤ 8) : 2 * (F0 m pc ls st0).monitorRoom + (st.map fun v => v.category).sum ≤ 8 := by
  have : (F0 m pc ls st0).monitorRoom = 0 := rfl
  rw [this]; omega
/-- invokevirtual, in general: what is thrown goes on by kx -/
theorem V_callVx (C : Cx p l s m args meth c cc nL own base D ct sa) {idx np maxL b ci : Nat} {Cn : String} {y : MethodName} {bytes : ByteArray} {ret : Option FieldType} {rm : Room} {As : List Value} {fs : List Value} {T : u_T} {N : Nat} {post : Option Value → Mem → Prop} {px : String → Mem → Prop}
    (hM : CT l y (.code y bytes maxL ret :: WL) rm base D ct sa M (.ref b :: As) post px) (w : WV own idx Cn y bytes maxL ret np) (hb : M b = some (.inr (ci, fs))) (hci : clG[ci]? = some (Cn, T, N)) (hn : As.length = np) (hR : rm.frames + 1 ≤ R.frames ∧ 8 + (maxL + 11) + rm.locals ≤ R.locals) (hcat : (st.map fun v => v.category).sum ≤ 8) (hf : k + rm.cells ≤ R.cells ∧ n + rm.slots ≤ R.slots) (hd : decode cc pc = .ok (.invokevirtual idx, 3))
    (kx : ∀ (ls : Array Slot), lv_has ls nL lv → ∀ (E : String) (M' : Mem) (ce : Cell) (q9 : Addr) (H1 : Heap) (locs1 : List Loc), px E M' → Wd base D M' H1 → va_S (Ab base) s.heap H1 locs1 → H1[q9]? = some ce → ce.vm = .none → s.vm.findClass E = some ce.cls → vx_W p l e R s m args below meth c H1 locs1 (k + rm.cells) (n + rm.slots) Q (F0 m pc ls st) q9)
    (kk : ∀ (v : Option Value) (M' : Mem), post v M' → VV p l e R s m args below meth c nL base D Q M' (k + rm.cells) (n + rm.slots) (pc + 3) lv (v.toList ++ st)) : VV p l e R s m args below meth c nL base D Q M k n pc lv (As.reverse ++ .ref b :: st) := by
  intro H locs ls hW hS hL
  obtain ⟨L, f9, h1, h2, h3⟩ := id hW
  obtain ⟨q0, hq⟩ := pl_at (h1 b _ hb)
  obtain ⟨⟨⟨w1, w2⟩, w3, w4, w5⟩, w6⟩ := w
  have hG : GoodIn WL (wsV own idx Cn y (.code y bytes maxL ret :: WL)) := good_WL w5 (fun w hw => by
    simp only [List.mem_cons, List.not_mem_nil, or_false] at hw
    rcases hw with rfl | rfl | rfl | rfl
    · exact w1
    · exact w2
    · exact w3
    · exact w4)
  have cw := cwV (R := R) (s := s) (args := args) (rm := rm) np C.2.2.2.2.1 hG rfl rfl rfl w6 hR
  exact VV.run (vx_runV (Ts := WL) (b := b) (As := As) ⟨C.1, C.2.1, C.2.2.1, C.2.2.2.1, C.2.2.2.2.1⟩ hM cw ⟨PreG.blind, va_recv C.2.2.2.2.2.1.2.1 h2 hci hq, PreG.here C hW hS _⟩ rfl hn hL.1 rfl (catF hcat) hd hf) hS hL (kx ls hL) kk
theorem V_callSx (C : Cx p l s m args meth c cc nL own base D ct sa) {idx np maxL : Nat} {y : MethodName} {bytes : ByteArray} {ret : Option FieldType} {rm : Room} {As : List Value} {post : Option Value → Mem → Prop} {px : String → Mem → Prop}
    (hM : CT l y (.code y bytes maxL ret :: WL) rm base D ct sa M As post px) (w : WS own idx y bytes maxL ret np) (hn : As.length = np) (hR : rm.frames + 1 ≤ R.frames ∧ 8 + (maxL + 11) + rm.locals ≤ R.locals) (hcat : (st.map fun v => v.category).sum ≤ 8) (hf : k + rm.cells ≤ R.cells ∧ n + rm.slots ≤ R.slots) (hd : decode cc pc = .ok (.invokestatic idx, 3))
    (kx : ∀ (ls : Array Slot), lv_has ls nL lv → ∀ (E : String) (M' : Mem) (ce : Cell) (q9 : Addr) (H1 : Heap) (locs1 : List Loc), px E M' → Wd base D M' H1 → va_S (Ab base) s.heap H1 locs1 → H1[q9]? = some ce → ce.vm = .none → s.vm.findClass E = some ce.cls → vx_W p l e R s m args below meth c H1 locs1 (k + rm.cells) (n + rm.slots) Q (F0 m pc ls st) q9)
    (kk : ∀ (v : Option Value) (M' : Mem), post v M' → VV p l e R s m args below meth c nL base D Q M' (k + rm.cells) (n + rm.slots) (pc + 3) lv (v.toList ++ st)) : VV p l e R s m args below meth c nL base D Q M k n pc lv (As.reverse ++ st) := by
  intro H locs ls hW hS hL
  obtain ⟨⟨w1, w2, w4, w5⟩, w6⟩ := w
  have hG : GoodIn WL (wsS own idx y (.code y bytes maxL ret :: WL)) := good_WL w5 (fun w hw => by
    simp only [List.mem_cons, List.not_mem_nil, or_false] at hw
    rcases hw with rfl | rfl | rfl
    · exact w1
    · exact w2
    · exact w4)
  have cw := cwS (R := R) (s := s) (args := args) (rm := rm) np C.2.2.2.2.1 hG rfl rfl rfl w6 hR
  exact VV.run (vx_runS (Ts := WL) (As := As) ⟨C.1, C.2.1, C.2.2.1, C.2.2.2.1, C.2.2.2.2.1⟩ hM cw ⟨PreG.blind, PreG.here C hW hS _⟩ rfl hn hL.1 rfl (catF hcat) hd hf) hS hL (kx ls hL) kk
/-- a constructor -/
theorem V_callI (C : Cx p l s m args meth c cc nL own base D ct sa) {idx np maxL b : Nat} {y : MethodName} {bytes : ByteArray} {rm : Room} {As : List Value} {post : Option Value → Mem → Prop}
    (hM : CM l y (.code y bytes maxL none :: WL) rm base D ct sa M (.ref b :: As) post) (w : WI own idx y bytes maxL np) (hn : As.length = np) (hR : rm.frames + 1 ≤ R.frames ∧ 8 + (maxL + 11) + rm.locals ≤ R.locals) (hcat : (st.map fun v => v.category).sum ≤ 8) (hf : k + rm.cells ≤ R.cells ∧ n + rm.slots ≤ R.slots) (hd : decode cc pc = .ok (.invokespecial idx, 3))
    (kk : ∀ (v : Option Value) (M' : Mem), post v M' → VV p l e R s m args below meth c nL base D Q M' (k + rm.cells) (n + rm.slots) (pc + 3) lv (v.toList ++ st)) : VV p l e R s m args below meth c nL base D Q M k n pc lv (As.reverse ++ .ref b :: st) := by
  intro H locs ls hW hS hL
  obtain ⟨⟨w1, w2, w4, w5⟩, w6, w7⟩ := w
  have hG : GoodIn WL (.code y bytes maxL none :: WL) := good_WL (L := []) w5 (fun w hw => by cases hw)
  have cw := cwI (R := R) (s := s) (args := args) (rm := rm) np C.2.2.2.2.1 hG rfl rfl rfl (C.2.2.2.2.1 _ w4) (C.2.2.2.2.1 _ w1) (C.2.2.2.2.1 _ w2) w6 w7 hR
  exact VV.runM (va_runI (Ts := WL) (b := b) (As := As) ⟨C.1, C.2.1, C.2.2.1, C.2.2.2.1, C.2.2.2.2.1⟩ hM cw ⟨PreG.blind, PreG.here C hW hS _⟩ rfl hn hL.1 rfl (catF hcat) hd hf) hS hL kk
/-- the body's end -/
abbrev QB (base : Nat) (D : va_G) (post : Option Value → Mem → Prop) (px : String → Mem → Prop) (below : List Frame) (args : Array Value) (s : State) (mc ms : Nat) : State → Prop := vx_MQ below (PQ base D post) (PX base D px) args s mc ms (Ab base)
variable {post : Option Value → Mem → Prop} {px : String → Mem → Prop} {mc ms : Nat}
/-- invokevirtual in a body without handlers: what is thrown goes on -/
theorem V_callV (C : Cx p l s m args meth c cc nL own base D ct sa) (hx : ∀ x ∈ c.exceptionTable.toList, False) {idx np maxL b ci : Nat} {Cn : String} {y : MethodName} {bytes : ByteArray} {ret : Option FieldType} {rm : Room} {As : List Value} {fs : List Value} {T : u_T} {N : Nat} {post' : Option Value → Mem → Prop} {px' : String → Mem → Prop}
    (hM : CT l y (.code y bytes maxL ret :: WL) rm base D ct sa M (.ref b :: As) post' px') (w : WV own idx Cn y bytes maxL ret np) (hb : M b = some (.inr (ci, fs))) (hci : clG[ci]? = some (Cn, T, N)) (hn : As.length = np) (hR : rm.frames + 1 ≤ R.frames ∧ 8 + (maxL + 11) + rm.locals ≤ R.locals) (hcat : (st.map fun v => v.category).sum ≤ 8) (hf : k + rm.cells ≤ R.cells ∧ n + rm.slots ≤ R.slots) (hd : decode cc pc = .ok (.invokevirtual idx, 3))
    (hc : k + rm.cells ≤ mc) (hs : n + rm.slots ≤ ms) (kx : ∀ E M', px' E M' → px E M')
    (kk : ∀ (v : Option Value) (M' : Mem), post' v M' → VV p l e R s m args below meth c nL base D (QB base D post px below args s mc ms) M' (k + rm.cells) (n + rm.slots) (pc + 3) lv (v.toList ++ st)) : VV p l e R s m args below meth c nL base D (QB base D post px below args s mc ms) M k n pc lv (As.reverse ++ .ref b :: st) :=
  V_callVx C hM w hb hci hn hR hcat hf hd (fun ls hL E M' ce q9 H1 locs1 h1 h2 h3 h4 h5 h6 => vx_out (fun x hx9 => (hx x hx9).elim) C.2.2.2.2.2.2.1 h4 h5 h6 (fun t ht _ => ⟨M', kx E M' h1, by rw [ht]; exact h2, h3.F ht⟩) h3.2.2 hc hs) kk
theorem V_callS (C : Cx p l s m args meth c cc nL own base D ct sa) (hx : ∀ x ∈ c.exceptionTable.toList, False) {idx np maxL : Nat} {y : MethodName} {bytes : ByteArray} {ret : Option FieldType} {rm : Room} {As : List Value} {post' : Option Value → Mem → Prop} {px' : String → Mem → Prop}
    (hM : CT l y (.code y bytes maxL ret :: WL) rm base D ct sa M As post' px') (w : WS own idx y bytes maxL ret np) (hn : As.length = np) (hR : rm.frames + 1 ≤ R.frames ∧ 8 + (maxL + 11) + rm.locals ≤ R.locals) (hcat : (st.map fun v => v.category).sum ≤ 8) (hf : k + rm.cells ≤ R.cells ∧ n + rm.slots ≤ R.slots) (hd : decode cc pc = .ok (.invokestatic idx, 3))
    (hc : k + rm.cells ≤ mc) (hs : n + rm.slots ≤ ms) (kx : ∀ E M', px' E M' → px E M')
    (kk : ∀ (v : Option Value) (M' : Mem), post' v M' → VV p l e R s m args below meth c nL base D (QB base D post px below args s mc ms) M' (k + rm.cells) (n + rm.slots) (pc + 3) lv (v.toList ++ st)) : VV p l e R s m args below meth c nL base D (QB base D post px below args s mc ms) M k n pc lv (As.reverse ++ st) :=
  V_callSx C hM w hn hR hcat hf hd (fun ls hL E M' ce q9 H1 locs1 h1 h2 h3 h4 h5 h6 => vx_out (fun x hx9 => (hx x hx9).elim) C.2.2.2.2.2.2.1 h4 h5 h6 (fun t ht _ => ⟨M', kx E M' h1, by rw [ht]; exact h2, h3.F ht⟩) h3.2.2 hc hs) kk
theorem V_iret (C : Cx p l s m args meth c cc nL own base D ct sa) {v : Int32} (hr : meth.sig.returnType = some .int) (hc : k ≤ mc) (hs : n ≤ ms) (hd : decode cc pc = .ok (.ireturn, 1)) (hp : post (some (.int v)) M) : VV p l e R s m args below meth c nL base D (QB base D post px below args s mc ms) M k n pc lv [.int v] := by
  intro H locs ls hW hS hL
  refine vx_ret (W.widen hc hs ?_)
  exact W.iret C.1 C.2.1 hr (fun t ht _ => ⟨⟨_, M, rfl, hp, by rw [ht]; exact hW⟩, hS.F ht⟩) hS.2.2 hd C.2.2.2.2.2.2.1
theorem V_zret (C : Cx p l s m args meth c cc nL own base D ct sa) {v : Int32} (hr : meth.sig.returnType = some .boolean) (hb : narrow .boolean (.int v) = .int v) (hc : k ≤ mc) (hs : n ≤ ms) (hd : decode cc pc = .ok (.ireturn, 1)) (hp : post (some (.int v)) M) : VV p l e R s m args below meth c nL base D (QB base D post px below args s mc ms) M k n pc lv [.int v] := by
  intro H locs ls hW hS hL
  refine vx_ret (W.widen hc hs ?_)
  exact W.zret C.1 C.2.1 hr hb (fun t ht _ => ⟨⟨_, M, rfl, hp, by rw [ht]; exact hW⟩, hS.F ht⟩) hS.2.2 hd C.2.2.2.2.2.2.1
theorem V_vret (C : Cx p l s m args meth c cc nL own base D ct sa) (hr : meth.sig.returnType = none) (hc : k ≤ mc) (hs : n ≤ ms) (hd : decode cc pc = .ok (.return_, 1)) (hp : post none M) : VV p l e R s m args below meth c nL base D (QB base D post px below args s mc ms) M k n pc lv [] := by
  intro H locs ls hW hS hL
  refine vx_ret (W.widen hc hs ?_)
  exact W.vret C.1 C.2.1 hr (fun t ht _ => ⟨⟨_, M, rfl, hp, by rw [ht]; exact hW⟩, hS.F ht⟩) hS.2.2 hd C.2.2.2.2.2.2.1
theorem V_aret (C : Cx p l s m args meth c cc nL own base D ct sa) {v : Value} {cn : String} (hr : meth.sig.returnType = some (.object cn)) (hv : v = .null ∨ ∃ a, v = .ref a) (hc : k ≤ mc) (hs : n ≤ ms) (hd : decode cc pc = .ok (.areturn, 1)) (hp : post (some v) M) : VV p l e R s m args below meth c nL base D (QB base D post px below args s mc ms) M k n pc lv [v] := by
  intro H locs ls hW hS hL
  refine vx_ret (W.widen hc hs ?_)
  exact W.aret C.1 C.2.1 hr (Or.inl ⟨_, rfl⟩) hv (fun t ht _ => ⟨⟨_, M, rfl, hp, by rw [ht]; exact hW⟩, hS.F ht⟩) hS.2.2 hd C.2.2.2.2.2.2.1
/-- a constructor's end -/
theorem V_vretM (C : Cx p l s m args meth c cc nL own base D ct sa) (hr : meth.sig.returnType = none) (hc : k ≤ mc) (hs : n ≤ ms) (hd : decode cc pc = .ok (.return_, 1)) (hp : post none M) : VV p l e R s m args below meth c nL base D (MQ below (PQ base D post) args s mc ms (Ab base)) M k n pc lv [] := by
  intro H locs ls hW hS hL
  refine W.widen hc hs ?_
  exact W.vret C.1 C.2.1 hr (fun t ht _ => ⟨⟨_, M, rfl, hp, by rw [ht]; exact hW⟩, hS.F ht⟩) hS.2.2 hd C.2.2.2.2.2.2.1
/-- throw new E("text") out of a body without handlers -/
theorem V_throw (C : Cx p l s m args meth c cc nL own base D ct sa) (hx : ∀ x ∈ c.exceptionTable.toList, False) (hown : own = RX3) {E tx : String} {ik is ic : Nat} (hE : Bundle.fit E = true) (hk : Cond.classLink RX3 ik E ∈ WL) (hini : Cond.initialized E ∈ WL) (htx : (is, tx) ∈ strG)
    (hat : ∀ w ∈ vx_atS RX3 ic E ["java/lang/RuntimeException", "java/lang/Exception"], w ∈ WL ∨ w ∈ NGl) (hg : ∀ w ∈ Cond.classLink RX3 ik E :: Cond.initialized E :: vx_atS RX3 ic E ["java/lang/RuntimeException", "java/lang/Exception"], vx_ot w = true)
    (d0 : decode cc pc = .ok (.new ik, 3)) (d3 : decode cc (pc + 3) = .ok (.dup, 1)) (d4 : decode cc (pc + 4) = .ok (.ldc is, 2)) (d6 : decode cc (pc + 6) = .ok (.invokespecial ic, 3)) (d9 : decode cc (pc + 9) = .ok (.athrow, 1))
    (hF : 5 < R.frames) (hLo : (st.map fun v => v.category).sum + 82 ≤ R.locals) (hk1 : k + 1 ≤ R.cells) (hs1 : n + 6 ≤ R.slots) (hc : k + 1 ≤ mc) (hs : n + 6 ≤ ms) (hp : px E M) : VV p l e R s m args below meth c nL base D (QB base D post px below args s mc ms) M k n pc lv st := by
  intro H locs ls hW hS hL
  subst hown
  obtain ⟨e1, e2, e3, e4, e5, ⟨g1, g2, ⟨g3, g3'⟩, g4, g5, g6, g7⟩, e7, e8⟩ := C
  refine vx_throwS e1 e2 e8 (names := ["java/lang/RuntimeException", "java/lang/Exception"]) (A := Ab base) e4 hE (by decide +kernel) (e5 _ hk) (e5 _ hini) (g5 _ htx) (fun w hw => ?_) hg g3 g3' hS (hL.1.trans e3.symm) d0 d3 d4 d6 d9 (fun x h => (hx x h).elim) hF hLo hk1 hs1 e7 (fun t ht h1 h2 => ?_) hS.2.2 hc hs
  · rcases hat w hw with h | h
    · exact e5 _ h
    · exact va_Nw.use (NGl_on w h) (g4 w h)
  · refine ⟨M, hp, ?_, ?_⟩
    · obtain ⟨L, f, q1, q2, q3⟩ := hW
      exact ⟨L, f, q1, q2.kept (fun j q hq => h2 q.1 (q2 j q hq).lt), q3⟩
    · exact ⟨Nat.le_trans hS.1 h1, fun q hq hA => by rw [h2 q (Nat.lt_of_lt_of_le hq hS.1)]; exact hS.2.1 q hq hA⟩
end
/-- a contract out of its body -/
theorem CT.of {l : Launch} {y : MethodName} {cc : ByteArray} {nL : Nat} {ret : Option FieldType} {rm : Room} {base : Nat} {D : va_G} {ct : Nat → ClassId} {sa : Nat → Nat} {M : Mem} {av : List Value} {post : Option Value → Mem → Prop} {px : String → Mem → Prop} (hl : l.stackTraces = false) (hy : plainName y.cls = true) (hlen : (lg_sl av).length ≤ nL)
    (body : ∀ p e s m below meth c, Cx p l s m av.toArray meth c cc nL y.cls base D ct sa → meth.sig.returnType = ret → (∀ x ∈ c.exceptionTable.toList, False) → VV p l e rm s m av.toArray below meth c nL base D (QB base D post px below av.toArray s rm.cells rm.slots) M 0 0 0 (lv_args 0 av) []) :
    CT l y (.code y cc nL ret :: WL) rm base D ct sa M av post px := by
  refine vx_ofW (cc := cc) (maxL := nL) (ret := ret) hy rfl ?_
  intro p e s m args below meth c s₁ B hml ht hv
  obtain ⟨rfl, hE, hW⟩ := hv
  have hts := atoms_spec (ws := .code y cc nL ret :: WL) B.pre
  have hown : s.vm.findClass y.cls = some m.cls := findClass_of_methodNamed B.named
  have K := body p e s m below meth c ⟨B.exec, B.bytes, hml, hown, fun w hw => hts w (List.mem_cons_of_mem _ hw), hE, B.notSynchronized, hl⟩ B.returns ht
  have hl9 := lv_entry av (n := nL) hlen
  rw [lg_entry_eq]
  exact K s.heap [] _ hW va_S.rf hl9
theorem CM.of {l : Launch} {y : MethodName} {cc : ByteArray} {nL : Nat} {rm : Room} {base : Nat} {D : va_G} {ct : Nat → ClassId} {sa : Nat → Nat} {M : Mem} {av : List Value} {post : Option Value → Mem → Prop} (hl : l.stackTraces = false) (hy : plainName y.cls = true) (hlen : (lg_sl av).length ≤ nL)
    (body : ∀ p e s m below meth c, Cx p l s m av.toArray meth c cc nL y.cls base D ct sa → meth.sig.returnType = none → meth.name = y.name → VV p l e rm s m av.toArray below meth c nL base D (MQ below (PQ base D post) av.toArray s rm.cells rm.slots (Ab base)) M 0 0 0 (lv_args 0 av) []) :
    CM l y (.code y cc nL none :: WL) rm base D ct sa M av post := by
  refine Met.ofW (cc := cc) (maxL := nL) (ret := none) hy rfl ?_
  intro p e s m args below meth c s₁ B hml hv
  obtain ⟨rfl, hE, hW⟩ := hv
  have hts := atoms_spec (ws := .code y cc nL none :: WL) B.pre
  have hown : s.vm.findClass y.cls = some m.cls := findClass_of_methodNamed B.named
  have K := body p e s m below meth c ⟨B.exec, B.bytes, hml, hown, fun w hw => hts w (List.mem_cons_of_mem _ hw), hE, B.notSynchronized, hl⟩ B.returns (name_of_methodNamed B.named B.method).1
  have hl9 := lv_entry av (n := nL) hlen
  rw [lg_entry_eq]
  exact K s.heap [] _ hW va_S.rf hl9
