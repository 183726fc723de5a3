/-! throw new NoSuchElementException(text). JDK 17's constructor of it hands its text on by entry 13, where the library's ctorThrowS wants 7. The words are the library's own list with that link exchanged (atN0); what a throw asks of the class comes in small rows (tn_..); the constructors' walk is the library's ctorMessageOffV, named. It serves where nothing old has been written yet (an empty list of places), which is how V_throwN stands. -/
abbrev tn_NS : String := "java/util/NoSuchElementException"
abbrev tn_RT : String := "java/lang/RuntimeException"
abbrev tn_EX : String := "java/lang/Exception"
abbrev tn_B : ByteArray := prog_17_method_4_code
def tn_seven : List Cond := [.code (Bundle.initS tn_NS) Bundle.six 2 none, .methodLink tn_NS 7 (Bundle.initS tn_RT)]
def atN0 : List Cond := Bundle.passSAtoms tn_NS tn_RT 13 tn_B ++ (Bundle.ownAtoms RX3 156 tn_NS [tn_RT, tn_EX]).filter fun w => decide (w ∉ tn_seven)
set_option maxRecDepth 20000 in
theorem tn_thr : ∀ w ∈ Bundle.throwableAtoms, w ∈ atN0 := by decide +kernel
set_option maxRecDepth 20000 in
theorem tn_thrS : ∀ w ∈ Bundle.throwableSAtoms, w ∈ atN0 := by decide +kernel
set_option maxRecDepth 20000 in
theorem tn_chain : ∀ w ∈ Bundle.chainSAtoms tn_RT [tn_EX], w ∈ atN0 := by decide +kernel
theorem tn_pass : ∀ w ∈ Bundle.passSAtoms tn_NS tn_RT 13 tn_B, w ∈ atN0 := fun _ hw => List.mem_append_left _ hw
theorem tn_d0 : decode tn_B 0 = .ok (.aload_n 0, 1) := by decide +kernel
theorem tn_d1 : decode tn_B 1 = .ok (.aload_n 1, 1) := by decide +kernel
theorem tn_d2 : decode tn_B 2 = .ok (.invokespecial 13, 3) := by decide +kernel
theorem tn_d5 : decode tn_B 5 = .ok (.return_, 1) := by decide +kernel
/-- a field where a fresh object of a class bears it: the type of its place, and the name under which the class knows that place -/
def tn_At (s : State) (x : ClassId) (k : Class) (f : Field) : Prop := k.instanceTypes[f.slot]? = some f.type ∧ ∃ d, Jmm.declares? s.vm f.slot (x + 1) x = some d ∧ d.2.name = f.name
section
variable {p : Program} {l : Launch} {e : Env} {R : Room} {s : State} {m : MethodId} {args : Array Value} {below : List Frame} {meth : Method} {c : Code} {cells slots : Nat} {x : ClassId} {k : Class} {f : Field}
theorem tn_At.ne {f' : Field} (h : tn_At s x k f) (h' : tn_At s x k f') {n n' : String} (hn : f.name = n) (hn' : f'.name = n') (hd : n ≠ n') : f'.slot ≠ f.slot := by
  obtain ⟨-, _, q1, q2⟩ := h
  obtain ⟨-, _, r1, r2⟩ := h'
  exact Cond.laysApart r1 q1 r2 q2 (fun he => hd (hn.symm.trans (he.symm.trans hn')))
theorem tn_At.takes (h : tn_At s x k f) (hk : s.vm.classes[x]? = some k) (ho : k.kind = .ordinary) {t : FieldType} {v : Value} (ht : f.type = t) (hv : fits t v = true) : Takes s (freshCell x k) f v :=
  Takes.of_laid hk ho h.1 (ht.symm ▸ hv)
/-- the place of a field of an object type is still null when three other places have been written -/
theorem tn_At.null (h : tn_At s x k f) {n : String} (ht : f.type = .object n) {i1 i2 i3 : Nat} (n1 : i1 ≠ f.slot) (n2 : i2 ≠ f.slot) (n3 : i3 ≠ f.slot) (v1 v2 v3 : Value) :
    ((((freshCell x k).slots.setIfInBounds i1 v1).setIfInBounds i2 v2).setIfInBounds i3 v3)[f.slot]? = some .null := by
  rw [Array.getElem?_setIfInBounds_ne n3, Array.getElem?_setIfInBounds_ne n2, Array.getElem?_setIfInBounds_ne n1, fresh_default h.1, ht]
  rfl
theorem tn_sel (ha : l.admits e) {C : String} {y : MethodName} {i : MethodId} (hx : s.vm.findClass C = some x) (hy : s.methodNamed? y = some i) (hn : y.cls ≠ "java/lang/invoke/MethodHandle" ∧ y.cls ≠ "java/lang/invoke/VarHandle")
    (w : (Cond.selects C y y).holds args s none s [] = true) : selectMethod e.platform s.vm x i = .method i := by
  obtain ⟨x', r, i', hx', hr, hi, hs, -⟩ := Cond.selects_spec w
  rw [State.methodFound?_of_named hy hn] at hr
  rw [hy] at hi
  rw [hx] at hx'
  injection hx' with hx'
  injection hr with hr
  injection hi with hi
  subst hx' hr hi
  exact (Launch.admits_selectMethod ha _ _ _).trans hs
theorem tn_old {T : State} (X : Stand p l e R s m args below meth c T [] cells slots) {q : Nat} {ce : Cell} (h : s.heap[q]? = some ce) : T.heap[q]? = some ce :=
  ((vx_frame (U := T) X.same).2 q (Array.getElem?_eq_some_iff.mp h).1 (fun _ hz => nomatch hz)).trans h
theorem tn_base {a : Addr} {y : Loc} (is : List Nat) (h : y ∈ is.map fun i => (⟨a, i⟩ : Loc)) : y.base = a := by
  obtain ⟨_, -, rfl⟩ := List.mem_map.mp h
  rfl
set_option maxHeartbeats 4000000 in
set_option maxRecDepth 20000 in
theorem tn_throw {T : State} (X : Stand p l e R s m args below meth c T [] cells slots) (hexec : p.tables.exec = Jvm.exec) (htr : e.platform.stackTraces = false) (hown : s.vm.findClass RX3 = some m.cls)
    (w : ∀ q ∈ atN0, q.before args s = true) (hx : s.vm.findClass tn_NS = some x) (hk : s.vm.classes[x]? = some k) {a : Addr} (hcell : T.heap[a]? = some (freshCell x k)) (hnew : s.heap.size ≤ a) {tx : Value} (htx : tx.isRef = true)
    {g : JFrame} (hg : g.method = m) (hsz : g.locals.size = c.maxLocals) (hlk : g.locked = none) (hen : g.entered = []) {st : List Value} (hst : g.stack = tx :: .ref a :: .ref a :: st)
    (dc : decode c.code g.pc = .ok (.invokespecial 156, 3)) (dt : decode c.code (g.pc + 3) = .ok (.athrow, 1)) (hout : ∀ y ∈ c.exceptionTable.toList, covers y (g.pc + 3) = false)
    (hF : 5 < R.frames) (hLo : 2 * g.monitorRoom + ((Value.ref a :: st).map fun v => v.category).sum + 81 ≤ R.locals) (hlocks : meth.locks = false) :
    ∃ U : State, Steps p.tables e below (T.setTop g) U ∧ U.status = .running ∧ Ended U below (.threw a) ∧ s.WarmedH U.vm ∧ s.sameButNew ({ U with vm := s.vm } : State) [] cells slots ∧
      ∃ ce, U.heap[a]? = some ce ∧ ce.vm = .none ∧ s.vm.findClass tn_NS = some ce.cls := by
  have W : ∀ q, q ∈ atN0 → q.holds args s none s [] = true := w
  have hpl : e.platform.magicAccessors = ({} : Platform).magicAccessors := by rw [X.admits.platform]
  -- the constructors, from the class's own up to Throwable's
  obtain ⟨H, _, hH, -, tie⟩ := ThrowableC.of_atoms (args := args) (s := s) (pl := e.platform) (by rw [X.admits.platform]) (by rw [X.admits.platform]) hpl (fun q hq => w q (tn_thr q hq))
  obtain ⟨Z, Q, hZ, hQ, top⟩ := Init0T.ofS_atoms (args := args) hpl hH tie (fun q hq => w q (tn_thrS q hq))
  obtain ⟨B, Bs, nB, lB, lBs, atB, upB, upBs⟩ := Bundle.chainS (args := args) hpl top [tn_EX] tn_RT (by decide +kernel) (by decide +kernel) (fun q hq => w q (tn_chain q hq))
  obtain ⟨A, lA, atA, upA⟩ := PassC.ofS_atoms (args := args) (s := s) hpl (X := tn_NS) (Y := tn_RT) (by decide +kernel) (by decide +kernel) tn_d0 tn_d1 tn_d2 tn_d5 (fun q hq => w q (tn_pass q hq))
  have links : ∀ P ∈ A :: B :: Bs, P.LinksS e.platform s := List.forall_mem_cons.mpr ⟨lA, List.forall_mem_cons.mpr ⟨lB, lBs⟩⟩
  have len : (A :: B :: Bs).length = 3 := congrArg (· + 2) nB
  -- the class: ordinary, and where its objects bear Throwable's fields
  have ord : k.kind = .ordinary := by
    obtain ⟨x', k', q1, q2, q3, -⟩ := Cond.instantiable_spec (W (.instantiable tn_NS 6) (by decide +kernel))
    rw [hx] at q1
    injection q1 with q1
    subst q1
    rw [hk] at q2
    injection q2 with q2
    rw [q2]
    exact q3
  obtain ⟨im, tieM⟩ := tie.msg
  obtain ⟨bi, bj, fB, b1, b2, b3, b4, -, nmB, tyB, ffB⟩ := Cond.ownField (t := .object "java/lang/Object") tie.found hH.cls (by decide +kernel) (W (.fieldLink Bundle.tN 198 Bundle.tN "backtrace" "Ljava/lang/Object;") (by decide +kernel)) (W (.lays Bundle.tN Bundle.tN "backtrace" "Ljava/lang/Object;") (by decide +kernel)) e.platform hpl
  have fC : tn_At s x k H.fCause := Cond.laysAt hx hk tie.cause (W (.lays tn_NS Bundle.tN "cause" "Ljava/lang/Throwable;") (by decide +kernel))
  have fS : tn_At s x k H.fStack := Cond.laysAt hx hk tie.stack (W (.lays tn_NS Bundle.tN "stackTrace" Bundle.steD) (by decide +kernel))
  have fP : tn_At s x k H.fSupp := Cond.laysAt hx hk tie.supp (W (.lays tn_NS Bundle.tN "suppressedExceptions" Bundle.listD) (by decide +kernel))
  have fM : tn_At s x k H.fMsg := Cond.laysAt hx hk tieM (W (.lays tn_NS Bundle.tN "detailMessage" "Ljava/lang/String;") (by decide +kernel))
  have fT : tn_At s x k fB := Cond.laysAt hx hk ffB (W (.lays tn_NS Bundle.tN "backtrace" "Ljava/lang/Object;") (by decide +kernel))
  -- Throwable's two statics, in the cell that nobody has written
  obtain ⟨cs, hcs, isS⟩ := tie.statics
  have notU : cs.vm ≠ .unknown := fun he => by rw [he] at isS; cases isS
  have apart : H.aS ≠ a := fun he => absurd ((Array.getElem?_eq_some_iff.mp hcs).1) (he ▸ Nat.not_lt.mpr hnew)
  obtain ⟨u0, hu0⟩ := Cond.staticRefV tie.unassigned hH.unassignedStatic hH.statics hcs isS (W (.isRef (.static Bundle.tN "UNASSIGNED_STACK" Bundle.steD)) (by decide +kernel))
  obtain ⟨sn, hsn⟩ := Cond.staticRefV tie.sentinel hH.sentinelStatic hH.statics hcs isS (W (.isRef (.static Bundle.tN "SUPPRESSED_SENTINEL" Bundle.listD)) (by decide +kernel))
  -- into the constructor, through it, and out by the throw
  obtain ⟨i1, _, _, _, vm1, at1, -, -, -, -, -, -, -, warm1, in1⟩ := Steps.initColdS (tb := p.tables) (e := e) (below := below) (s := s) (U := T) X.here hexec X.warmed hpl hown (t := Bundle.initS tn_NS) rfl rfl (by decide +kernel) (args := args) (bytes := tn_B) (maxL := 2)
    (W (.methodLink RX3 156 (Bundle.initS tn_NS)) (by decide +kernel)) (W (.instanceMethod (Bundle.initS tn_NS)) (by decide +kernel)) (W (.code (Bundle.initS tn_NS) tn_B 2 none) (by decide +kernel)) (f := g) hg hst dc
  have same1 : i1 = A.m := Option.some.inj (at1.symm.trans atA)
  obtain ⟨vm2, X2, in2⟩ := (X.noted warm1).ctorMessageOffV hexec (g := { g with stack := .ref a :: st }) hg hsz H hH Z hZ Q hQ (A :: B :: Bs) links ⟨Option.some.inj (upA.symm.trans atB), upB, upBs⟩ (u0 := u0) (sen := sn) (self := a) (msg := tx) htx
    (cell := freshCell x k) (cellS := cs) hcell (fun _ => nofun) nofun rfl rfl
    (tn_sel X.admits hx tie.fill0 (by decide +kernel) (W (.selects tn_NS Bundle.tFill0 Bundle.tFill0) (by decide +kernel))) (tn_sel X.admits hx tie.fill (by decide +kernel) (W (.selects tn_NS Bundle.tFill Bundle.tFill) (by decide +kernel)))
    (tn_old X hcs) apart notU hu0 hsn (fC.takes hk ord tie.causeType rfl) (fS.takes hk ord tie.stackType (fits_refV_array _ u0)) (fP.takes hk ord tie.suppType (fits_refV_object _ sn)) (fM.takes hk ord tie.msgType (fits_refV_object _ ⟨tx, htx⟩))
    tie.objLocals ⟨⟨bi, bj, fB⟩, ⟨b1, b2, b3, b4⟩, fT.null tyB (fT.ne fC nmB tie.causeName (by decide)) (fT.ne fS nmB tie.stackName (by decide)) (fT.ne fP nmB tie.suppName (by decide)) _ _ _, fun _ _ => rfl⟩
    htr [] dc (by rw [len]; exact hF) (by rw [len]; exact hLo)
  obtain ⟨out, run, ended, warm, same⟩ := X2.athrowLeaves hexec (g := { g with stack := .ref a :: st, pc := g.pc + 3 }) hg hlk hen hout rfl dt hlocks
  refine ⟨_, in1 _ (fun acts => ?_), run, ended, warm, same.weaken (fun y hy hlt => ?_) (Nat.le_refl _) (Nat.le_refl _), _, heapAt_setCell_self _ (Array.getElem?_eq_some_iff.mp hcell).1, rfl, hx⟩
  · rw [doInvoke_state, same1]
    exact in2 _ out
  · rw [tn_base [H.fCause.slot, H.fStack.slot, H.fSupp.slot, H.fStack.slot, H.fMsg.slot] hy] at hlt
    exact absurd hlt (Nat.not_lt.mpr hnew)
end
abbrev atN : List Cond := atN0.filter vx_no
set_option maxRecDepth 20000 in
theorem ea_N : ∀ w ∈ atN, w ∈ WL ∨ w ∈ NGl := by decide +kernel
set_option maxRecDepth 20000 in
theorem eg_N : ∀ w ∈ Cond.classLink RX3 152 "java/util/NoSuchElementException" :: Cond.initialized "java/util/NoSuchElementException" :: atN, vx_ot w = true := by decide +kernel
section
variable {p : Program} {l : Launch} {e : Env} {R : Room} {s : State} {m : MethodId} {args : Array Value} {below : List Frame} {meth : Method} {c : Code} {cc : ByteArray} {nL base : Nat} {own : String} {D : va_G} {ct : Nat → ClassId} {sa : Nat → Nat} {M : Mem} {k n pc : Nat} {lv : List (Nat × Value)} {st : List Value} {post : Option Value → Mem → Prop} {px : String → Mem → Prop} {mc ms : Nat}
set_option maxHeartbeats 4000000 in
/-- throw new NoSuchElementException("text") -/
theorem V_throwN (C : Cx p l s m args meth c cc nL own base D ct sa) (hx : ∀ x ∈ c.exceptionTable.toList, False) (hown9 : own = RX3) {tx : String} {is : Nat} (htx : (is, tx) ∈ strG)
    (d0 : decode cc pc = .ok (.new 152, 3)) (d3 : decode cc (pc + 3) = .ok (.dup, 1)) (d4 : decode cc (pc + 4) = .ok (.ldc is, 2)) (d6 : decode cc (pc + 6) = .ok (.invokespecial 156, 3)) (d9 : decode cc (pc + 9) = .ok (.athrow, 1))
    (hF : 5 < R.frames) (hLo : (st.map fun v => v.category).sum + 82 ≤ R.locals) (hk1 : k + 1 ≤ R.cells) (hs1 : n + 6 ≤ R.slots) (hc : k + 1 ≤ mc) (hs : n + 6 ≤ ms) (hp : px "java/util/NoSuchElementException" M) : VV p l e R s m args below meth c nL base D (QB base D post px below args s mc ms) M k n pc lv st := by
  intro H locs ls hW hS hL T hT X
  subst hown9
  obtain ⟨hexec, hb, e3, hown, e5, ⟨g1, g2, ⟨hU, hN⟩, g4, g5, g6, g7⟩, hlocks, hl⟩ := C
  have htr : e.platform.stackTraces = false := (show e.platform.stackTraces = l.stackTraces by rw [X.admits.platform]).trans hl
  have Y := vx_rebase X (R' := { frames := R.frames, locals := R.locals, cells := 1, slots := 6 }) (Nat.le_refl _) (Nat.le_refl _) hk1 hs1
  obtain ⟨s', hA⟩ : ∃ z, z = (T.setVm s.vm).setFrames (.invoking m args :: below) := ⟨_, rfl⟩
  rw [← hA] at Y
  have hvm : s'.vm = s.vm := by rw [hA]; rfl
  have hhp : s'.heap = H := by rw [hA]; exact hT
  have hW0 : s.WarmedH s'.vm := by rw [hvm]; exact State.WarmedH.refl s
  have hw0 : ∀ w ∈ Cond.classLink RX3 152 "java/util/NoSuchElementException" :: Cond.initialized "java/util/NoSuchElementException" :: atN, w.before args s' = true := fun w hw => vx_ot_at hW0 hvm.symm (eg_N w hw) (by
    rcases List.mem_cons.mp hw with rfl | hw
    · exact e5 _ cl_X3_152
    · rcases List.mem_cons.mp hw with rfl | hw
      · exact e5 _ ini_EN
      · rcases ea_N w hw with h | h
        · exact e5 _ h
        · exact va_Nw.use (NGl_on w h) (g4 w h))
  have hU' : vx_Zq Bundle.tN "UNASSIGNED_STACK" Bundle.steD (Ab base) s' s'.heap := by rw [hhp]; exact vx_Zq.moved hW0.alike (hU.kept hS.2.1)
  have hN' : vx_Zq Bundle.tN "SUPPRESSED_SENTINEL" Bundle.listD (Ab base) s' s'.heap := by rw [hhp]; exact vx_Zq.moved hW0.alike (hN.kept hS.2.1)
  have h : ∀ w ∈ atN0, w.before args s' = true := vx_own (fun w hw => hw0 w (List.mem_cons_of_mem _ (List.mem_cons_of_mem _ hw))) (vx_isRefq hU'.1) (vx_isRefq hN'.1) hU'.2.word hN'.2.word
  have hown' : s'.vm.findClass RX3 = some m.cls := by rw [hvm]; exact hown
  have hins : (Cond.instantiable "java/util/NoSuchElementException" 6).before args s' = true := h _ (by decide +kernel)
  obtain ⟨vm₁, cX, kX, hfX, hkX, -, -, X₁, st1⟩ := Y.newCold hexec (own := RX3) (C := "java/util/NoSuchElementException") (index := 152) (n := 6) hown' (hw0 _ List.mem_cons_self) hins (hw0 _ (List.mem_cons_of_mem _ List.mem_cons_self))
    (g := F0 m pc ls st) rfl (by rw [hb]; exact d0) (Nat.le_refl _) (Nat.le_refl _)
  generalize hT1 : (T.setVm vm₁).pushCell { cls := cX, slots := kX.instanceTypes.map defaultValue, vm := .none } = T1 at X₁ st1
  have hcat : (Value.ref T.heap.size).category = 1 := rfl
  have hcellA : T1.heap[T.heap.size]? = some (freshCell cX kX) := by rw [← hT1]; exact State.heap_pushCell_size _ _
  have d3' : decode c.code (pc + 3) = .ok (.dup, 1) := by rw [hb]; exact d3
  have d4' : decode c.code (pc + 4) = .ok (.ldc is, 2) := by rw [hb]; exact d4
  have hstr' : vk_R RX3 is tx (sa is) s' := vk_R.warm hW0 (g5 _ htx)
  obtain ⟨U, hsteps, hrun, hend, hWW, hsame, ce, hce, hcv, hcl⟩ := tn_throw X₁ hexec htr hown' h hfX hkX hcellA (by rw [hhp, hT]; exact Nat.le_refl _) (tx := .ref (sa is)) rfl
    (g := { method := m, pc := pc + 6, locals := ls, stack := .ref (sa is) :: .ref T.heap.size :: .ref T.heap.size :: st, locked := none }) rfl (hL.1.trans e3.symm) rfl rfl (st := st) rfl
    (by rw [hb]; exact d6) (by rw [hb]; exact d9) (fun x h => (hx x h).elim) hF (by simp only [List.map_cons, List.sum_cons, hcat, JFrame.monitorRoom]; simp; omega) hlocks
  obtain ⟨f1, f2⟩ := vx_frame hsame
  rw [hhp] at f1 f2
  have f2' : ∀ q : Nat, q < H.size → U.heap[q]? = H[q]? := fun q hq => f2 q hq (fun z hz => nomatch hz)
  have hWs : s.WarmedH U.vm := State.WarmedH.trans hW0 hWW
  have hcl' : s.vm.findClass "java/util/NoSuchElementException" = some ce.cls := by rw [hvm] at hcl; exact hcl
  have hall : s.sameButNew ({ U with vm := s.vm } : State) locs mc ms := by
    subst hA
    obtain ⟨e1, e2⟩ := hsame
    rw [State.setFrames_setFrames] at e1
    have h2 : (T.setVm s.vm).sameButNew ({ U with vm := s.vm } : State) [] (0 + 1) (0 + 6) := ⟨e1, e2⟩
    have h3 := X.same.trans h2
    rw [List.append_nil] at h3
    exact h3.mono hc hs
  have hPX : PX base D px "java/util/NoSuchElementException" s U := by
    refine ⟨M, hp, ?_, ?_⟩
    · obtain ⟨L, f, q1, q2, q3⟩ := hW
      exact ⟨L, f, q1, q2.kept (fun j q hq => f2' q.1 (q2 j q hq).lt), q3⟩
    · exact ⟨Nat.le_trans hS.1 f1, fun q hq hA => by rw [f2' q (Nat.lt_of_lt_of_le hq hS.1)]; exact hS.2.1 q hq hA⟩
  refine ⟨U, ?_, .threw T.heap.size, hrun, hend, Or.inr ⟨T.heap.size, rfl, _, ce, locs, hPX, hce, hcv, hcl', hWs, hall, hS.2.2⟩⟩
  refine st1 _ ?_
  show Steps p.tables e below (T1.setTop { method := m, pc := pc + 3, locals := ls, stack := .ref T.heap.size :: st, locked := none }) _
  jvm_step X₁.here [X₁.here.top, hexec, d3', Value.category]
  exact X₁.ldcString hexec (own := RX3) (text := tx) (index := is) (a := sa is) hown' hstr'.1 hstr'.2
    (g := { method := m, pc := pc + 4, locals := ls, stack := .ref T.heap.size :: .ref T.heap.size :: st, locked := none }) rfl d4' _ hsteps
end
