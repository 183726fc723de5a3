/-! MY OWN ROWS: the world as a partial map from addresses; a judgement VV that hides the heap; contracts CT, CM -/
abbrev clG : List vw_C := [(RX0, TX0, 5), (RX1, TX1, 6), (RX2, TX2, 5), (RX3, TX3, 10), (RX4, TX4, 21)]
abbrev Mem : Type := Nat → Option va_E
def mput (M : Mem) (a : Nat) (e : va_E) : Mem := fun b => if b = a then some e else M b
theorem mput_eq (M : Mem) (a : Nat) (e : va_E) : mput M a e a = some e := if_pos rfl
theorem mput_ne {M : Mem} {a b : Nat} {e : va_E} (h : b ≠ a) : mput M a e b = M b := if_neg h
def Ab (base : Nat) : Nat → Prop := fun q => base ≤ q
abbrev tysG (ct : Nat → ClassId) : List (ClassId × FieldType) := [(ct 0, .int), (ct 1, .boolean), (ct 2, .long), (ct 3, .object RX1), (ct 4, .object RX2), (ct 5, .array .int)]
/-- the heap holds the world M -/
def Wd (base : Nat) (D : va_G) (M : Mem) (H : Heap) : Prop := ∃ (L : List Nat) (f : Nat → va_E), (∀ a e, M a = some e → a ∈ L ∧ f a = e) ∧ va_P D clG (va_pl L f) H ∧ va_D (Ab base) (va_pl L f)
theorem pl_at {L : List Nat} {f : Nat → va_E} {a : Nat} {e : va_E} (h : a ∈ L ∧ f a = e) : ∃ k : Nat, (va_pl L f)[k]? = some (a, e) := by
  obtain ⟨k, hk⟩ := va_pl_get (X := []) (f := f) h.1
  obtain ⟨_, rfl⟩ := h
  exact ⟨k, hk⟩
theorem Wd.sub {base : Nat} {D : va_G} {M M' : Mem} {H : Heap} (h : Wd base D M H) (hs : ∀ a e, M' a = some e → M a = some e) : Wd base D M' H := by
  obtain ⟨L, f, h1, h2, h3⟩ := h
  exact ⟨L, f, fun a e q => h1 a e (hs a e q), h2, h3⟩
theorem Wd.lt {base : Nat} {D : va_G} {M : Mem} {H : Heap} (h : Wd base D M H) {a : Nat} {e : va_E} (hm : M a = some e) : a < H.size := by
  obtain ⟨L, f, h1, h2, h3⟩ := h
  exact va_pl_lt (X := []) h2 (h1 a e hm).1
theorem Wd.base {base : Nat} {D : va_G} {M : Mem} {H : Heap} (h : Wd base D M H) {a : Nat} {e : va_E} (hm : M a = some e) : base ≤ a := by
  obtain ⟨L, f, h1, h2, h3⟩ := h
  obtain ⟨k, hk⟩ := pl_at (h1 a e hm)
  exact h3.2 k _ hk
theorem Wd.set {base : Nat} {D : va_G} {M : Mem} {L : List Nat} {f : Nat → va_E} {H : Heap} {a k : Nat} {e0 e1 : va_E} (h1 : ∀ a e, M a = some e → a ∈ L ∧ f a = e) (hD : va_D (Ab base) (va_pl L f)) (hm : M a = some e0) (hk : (va_pl L f)[k]? = some (a, e0)) (hP1 : va_P D clG ((va_pl L f).set k (a, e1)) H) (hD1 : va_D (Ab base) ((va_pl L f).set k (a, e1))) : Wd base D (mput M a e1) H := by
  obtain ⟨hL, hf⟩ := h1 a e0 hm
  subst hf
  have e9 : (va_pl L f).set k (a, e1) = va_pl L (va_up f a e1) := va_pl_set (X := []) hD hL hk
  rw [e9] at hP1 hD1
  refine ⟨L, va_up f a e1, fun b e q => ?_, hP1, hD1⟩
  by_cases hb : b = a
  · subst hb
    rw [mput_eq] at q
    exact ⟨hL, by rw [← Option.some.inj q]; simp [va_up]⟩
  · rw [mput_ne hb] at q
    exact ⟨(h1 b e q).1, by rw [va_up_ne _ _ hb]; exact (h1 b e q).2⟩
theorem Wd.push {base : Nat} {D : va_G} {M : Mem} {L : List Nat} {f : Nat → va_E} {H H1 : Heap} {a : Nat} {e1 : va_E} (h1 : ∀ a e, M a = some e → a ∈ L ∧ f a = e) (hP : va_P D clG (va_pl L f) H) (hD1 : va_D (Ab base) (va_pl L f ++ [(a, e1)])) (hP1 : va_P D clG (va_pl L f ++ [(a, e1)]) H1) : Wd base D (mput M a e1) H1 ∧ M a = none := by
  have hn : a ∉ L := va_pl_fresh2 (X := []) hD1
  rw [va_pl_push hn] at hP1 hD1
  refine ⟨⟨L ++ [a], va_up f a e1, fun b e q => ?_, hP1, hD1⟩, ?_⟩
  · by_cases hb : b = a
    · subst hb
      rw [mput_eq] at q
      exact ⟨by simp, by rw [← Option.some.inj q]; simp [va_up]⟩
    · rw [mput_ne hb] at q
      exact ⟨List.mem_append_left _ (h1 b e q).1, by rw [va_up_ne _ _ hb]; exact (h1 b e q).2⟩
  · cases hq : M a with
    | none => rfl
    | some e => exact absurd (h1 a e hq).1 hn
/-- words that stay but aren't 'good' -/
def NGl : List Cond := [.castable "java/lang/UnsupportedOperationException" "java/lang/UnsupportedOperationException", .castable "java/util/NoSuchElementException" "java/util/NoSuchElementException", .castable "java/lang/IndexOutOfBoundsException" "java/lang/IndexOutOfBoundsException", .castable "java/lang/IllegalStateException" "java/lang/IllegalStateException",
  .declares ⟨"java/lang/RuntimeException", "<init>", "(Ljava/lang/String;)V"⟩, .declares ⟨"java/lang/Exception", "<init>", "(Ljava/lang/String;)V"⟩, .declares ⟨"java/lang/Throwable", "<init>", "(Ljava/lang/String;)V"⟩, .methodLinkNest RX3 49 yX1_init RX3]
theorem NGl_on : ∀ w ∈ NGl, w.onTables = true := by decide +kernel
def EnvN (U : State) : Prop := ∀ w ∈ NGl, va_Nw w U
theorem EnvN.warm {s U : State} (hW : s.WarmedH U.vm) (h : EnvN s) : EnvN U := by
  intro w hw
  have h9 := h w hw
  simp only [NGl, List.mem_cons, List.not_mem_nil, or_false] at hw
  rcases hw with rfl | rfl | rfl | rfl | rfl | rfl | rfl | rfl
  · exact va_Nw.warmC hW h9
  · exact va_Nw.warmC hW h9
  · exact va_Nw.warmC hW h9
  · exact va_Nw.warmC hW h9
  · exact va_Nw.warmD hW h9
  · exact va_Nw.warmD hW h9
  · exact va_Nw.warmD hW h9
  · exact va_Nw.warmM hW h9
def strG : List (Nat × String) := [(52, "there are 200 objects"), (154, "there is no such object"), (163, "there is no object that the value refers to"), (165, "a number is not within its bounds"), (85, "a global object's cell can't refer to a local object"), (95, "16 saves live"), (129, "30 states are pushed"), (137, "a byte is 0 .. 255, or -1 to stay")]
def EnvS (sa : Nat → Nat) (U : State) : Prop := ∀ q ∈ strG, vk_R RX3 q.1 q.2 (sa q.1) U
def EnvC (U : State) : Prop := va_Nc "java/lang/IndexOutOfBoundsException" "java/util/NoSuchElementException" U ∧ va_Nc "java/lang/IllegalStateException" "java/util/NoSuchElementException" U ∧ va_Nc "java/lang/IllegalStateException" "java/lang/IndexOutOfBoundsException" U
def EnvO (U : State) : Prop := va_AO RX2 U ∧ va_AO RX1 U ∧ va_AOA .int U
theorem va_AOA.moved {ty : FieldType} {u U : State} (hvm : u.vm.Alike U.vm) (h : va_AOA ty u) : va_AOA ty U := by
  have e := Cond.arrayOver_setVmC (args := #[]) (s := u) hvm (.array ty)
  have e2 : (Cond.arrayOver (.array ty)).before #[] (u.setVm U.vm) = (Cond.arrayOver (.array ty)).before #[] U := rfl
  show (Cond.arrayOver (.array ty)).before #[] U = true
  rw [← e2, e]
  exact h
/-- what every method finds: the classes, the statics and texts of throws -/
def EnvG (base : Nat) (D : va_G) (ct : Nat → ClassId) (sa : Nat → Nat) (U : State) : Prop :=
  base ≤ U.heap.size ∧ va_K D clG (tysG ct) U ∧ (vx_Zq Bundle.tN "UNASSIGNED_STACK" Bundle.steD (Ab base) U U.heap ∧ vx_Zq Bundle.tN "SUPPRESSED_SENTINEL" Bundle.listD (Ab base) U U.heap) ∧ EnvN U ∧ EnvS sa U ∧ EnvC U ∧ EnvO U
theorem EnvG.moved {base : Nat} {D : va_G} {ct : Nat → ClassId} {sa : Nat → Nat} {s U : State} (h : EnvG base D ct sa s) (hW : s.WarmedH U.vm) {locs : List Loc} (hS : va_S (Ab base) s.heap U.heap locs) : EnvG base D ct sa U := by
  obtain ⟨h1, h2, ⟨h3, h4⟩, h5, h6, ⟨h7, h8, h9⟩, ⟨g1, g2, g3⟩⟩ := h
  exact ⟨Nat.le_trans h1 hS.1, va_K.moved hW.alike h2, ⟨vx_Zq.moved hW.alike (h3.kept hS.2.1), vx_Zq.moved hW.alike (h4.kept hS.2.1)⟩, h5.warm hW, fun q hq => vk_R.warm hW (h6 q hq), ⟨va_Nc.moved hW.alike h7, va_Nc.moved hW.alike h8, va_Nc.moved hW.alike h9⟩, ⟨va_AO.moved hW.alike g1, va_AO.moved hW.alike g2, va_AOA.moved hW.alike g3⟩⟩
theorem EnvG.blind {base : Nat} {D : va_G} {ct : Nat → ClassId} {sa : Nat → Nat} {U : State} (h : EnvG base D ct sa U) (g : JFrame) (mk : MethodId) (a : Array Value) : EnvG base D ct sa (U.calling g mk a) := by
  have hW : U.WarmedH (U.calling g mk a).vm := State.WarmedH.refl U
  exact h.moved (U := U.calling g mk a) hW (locs := []) ⟨Nat.le_refl _, fun _ _ _ => rfl, fun _ h => by cases h⟩
/-- a method's start -/
def PreG (base : Nat) (D : va_G) (ct : Nat → ClassId) (sa : Nat → Nat) (M : Mem) (av : List Value) : Array Value → State → Prop := va_Pc av (fun U => EnvG base D ct sa U ∧ Wd base D M U.heap)
theorem PreG.blind {base : Nat} {D : va_G} {ct : Nat → ClassId} {sa : Nat → Nat} {M : Mem} {av : List Value} : FrameBlind (PreG base D ct sa M av) := by
  intro a U g mk h
  exact ⟨h.1, h.2.1.blind g mk a, h.2.2⟩
/-- its end: it returns .. -/
def PQ (base : Nat) (D : va_G) (post : Option Value → Mem → Prop) : Array Value → State → Outcome → State → Prop := fun _ st oc t => (∃ (v : Option Value) (M' : Mem), oc = .returned v ∧ post v M' ∧ Wd base D M' t.heap) ∧ va_F (Ab base) st t
/-- .. or throws -/
def PX (base : Nat) (D : va_G) (px : String → Mem → Prop) : String → State → State → Prop := fun E st t => ∃ M' : Mem, px E M' ∧ Wd base D M' t.heap ∧ va_F (Ab base) st t
/-- CONTRACT of a method: it returns with 'post answer world', or throws an E with 'px E world' -/
def CT (l : Launch) (y : MethodName) (ws : List Cond) (rm : Room) (base : Nat) (D : va_G) (ct : Nat → ClassId) (sa : Nat → Nat) (M : Mem) (av : List Value) (post : Option Value → Mem → Prop) (px : String → Mem → Prop) : Prop :=
  vx_Met l y ws rm (PreG base D ct sa M av) (PQ base D post) (PX base D px) rm.cells rm.slots (Ab base)
/-- CONTRACT of a constructor -/
def CM (l : Launch) (y : MethodName) (ws : List Cond) (rm : Room) (base : Nat) (D : va_G) (ct : Nat → ClassId) (sa : Nat → Nat) (M : Mem) (av : List Value) (post : Option Value → Mem → Prop) : Prop :=
  Met l y ws rm (PreG base D ct sa M av) (PQ base D post) rm.cells rm.slots (Ab base)
def noX : String → Mem → Prop := fun _ _ => False
/-- rooms: k frames, and what they hold -/
abbrev rmK (k mc ms : Nat) : Room := { frames := k, cells := mc, slots := ms, locals := 30 * k + 20 }
def lget (lv : List (Nat × Value)) (i : Nat) : Option Value := (lv.find? (fun q => q.1 == i)).map (fun q => q.2)
def lset (lv : List (Nat × Value)) (i : Nat) (v : Value) : List (Nat × Value) := (i, v) :: lv.filter (fun q => !(q.1 == i) && !(q.1 + 1 == i && q.2.category == 2))
theorem lget_at {ls : Array Slot} {nL : Nat} {lv : List (Nat × Value)} (h : lv_has ls nL lv) {i : Nat} {v : Value} (hg : lget lv i = some v) : ls[i]? = some (.val v) := by
  unfold lget at hg
  obtain ⟨q, h1, h2⟩ := Option.map_eq_some_iff.mp hg
  have h3 := List.find?_some h1
  have h4 : q.1 = i := by simpa using h3
  have h5 := h.2.2 q (List.mem_of_find?_eq_some h1)
  rw [h4, h2] at h5
  exact h5
def lsub (lv : List (Nat × Value)) : List (Nat × Value) → Prop
  | [] => True
  | q :: r => lget lv q.1 = some q.2 ∧ lsub lv r
theorem lsub_has {ls : Array Slot} {nL : Nat} {lv : List (Nat × Value)} (h : lv_has ls nL lv) : ∀ lv' : List (Nat × Value), lsub lv lv' → lv_has ls nL lv' := by
  intro lv' hs
  refine ⟨h.1, h.2.1, ?_⟩
  induction lv' with
  | nil => intro q hq; cases hq
  | cons a r ih =>
    intro q hq
    rcases List.mem_cons.mp hq with rfl | hq
    · exact lget_at h hs.1
    · exact ih hs.2 q hq
/-- the machine at pc, with locals lv, stack st and world M, comes to Q -/
def VV (p : Program) (l : Launch) (e : Env) (R : Room) (s : State) (m : MethodId) (args : Array Value) (below : List Frame) (meth : Method) (c : Code) (nL base : Nat) (D : va_G) (Q : State → Prop) (M : Mem) (k n pc : Nat) (lv : List (Nat × Value)) (st : List Value) : Prop :=
  ∀ (H : Heap) (locs : List Loc) (ls : Array Slot), Wd base D M H → va_S (Ab base) s.heap H locs → lv_has ls nL lv → W p l e R s m args below meth c H locs k n Q (F0 m pc ls st)
/-- what stands in a method's body -/
def Cx (p : Program) (l : Launch) (s : State) (m : MethodId) (args : Array Value) (meth : Method) (c : Code) (cc : ByteArray) (nL : Nat) (own : String) (base : Nat) (D : va_G) (ct : Nat → ClassId) (sa : Nat → Nat) : Prop :=
  p.tables.exec = Jvm.exec ∧ c.code = cc ∧ c.maxLocals = nL ∧ s.vm.findClass own = some m.cls ∧ (∀ w ∈ WL, w.before args s = true) ∧ EnvG base D ct sa s ∧ meth.locks = false ∧ l.stackTraces = false
section
variable {p : Program} {l : Launch} {e : Env} {R : Room} {s : State} {m : MethodId} {args : Array Value} {below : List Frame} {meth : Method} {c : Code} {cc : ByteArray} {nL base : Nat} {own : String} {D : va_G} {ct : Nat → ClassId} {sa : Nat → Nat} {Q : State → Prop} {M : Mem} {k n pc : Nat} {lv : List (Nat × Value)} {st : List Value}
theorem Cx.hA (C : Cx p l s m args meth c cc nL own base D ct sa) : ∀ q, s.heap.size ≤ q → Ab base q := fun q h => Nat.le_trans C.2.2.2.2.2.1.1 h
theorem VV.loc (lv' : List (Nat × Value)) (h : lsub lv lv') (kk : VV p l e R s m args below meth c nL base D Q M k n pc lv' st) : VV p l e R s m args below meth c nL base D Q M k n pc lv st :=
  fun H locs ls hW hS hL => kk H locs ls hW hS (lsub_has hL lv' h)
theorem VV.widen {k' n' : Nat} (h1 : k ≤ k') (h2 : n ≤ n') (kk : VV p l e R s m args below meth c nL base D Q M k' n' pc lv st) : VV p l e R s m args below meth c nL base D Q M k n pc lv st :=
  fun H locs ls hW hS hL => W.widen h1 h2 (kk H locs ls hW hS hL)
theorem VV.mem {M' : Mem} (h : ∀ a e, M' a = some e → M a = some e) (kk : VV p l e R s m args below meth c nL base D Q M' k n pc lv st) : VV p l e R s m args below meth c nL base D Q M k n pc lv st :=
  fun H locs ls hW hS hL => kk H locs ls (hW.sub h) hS hL
theorem VV.eqv {M' : Mem} {st' : List Value} (h1 : M = M') (h2 : st = st') (kk : VV p l e R s m args below meth c nL base D Q M' k n pc lv st') : VV p l e R s m args below meth c nL base D Q M k n pc lv st := by
  subst h1; subst h2; exact kk
-- ROWS BEGIN
theorem lsub_has_cons {ls : Array Slot} {nL : Nat} {lv : List (Nat × Value)} (h : lv_has ls nL lv) {i : Nat} {v : Value} (hg : lget lv i = some v) : lv_has ls nL ((i, v) :: lv) :=
  ⟨h.1, h.2.1, fun q hq => by
    rcases List.mem_cons.mp hq with rfl | hq
    · exact lget_at h hg
    · exact h.2.2 q hq⟩
theorem V_iconst (C : Cx p l s m args meth c cc nL own base D ct sa) {z : Int} (v : Int32) (hd : decode cc pc = .ok (.iconst z, 1)) (hv : Int32.ofInt z = v) (kk : VV p l e R s m args below meth c nL base D Q M k n (pc + 1) lv (.int v :: st)) : VV p l e R s m args below meth c nL base D Q M k n pc lv st := by
  intro H locs ls hW hS hL
  exact lv_iconst C.1 C.2.1 hd hv (kk H locs ls hW hS hL)
theorem V_bipush (C : Cx p l s m args meth c cc nL own base D ct sa) {z : Int} (v : Int32) (hd : decode cc pc = .ok (.bipush z, 2)) (hv : (Int8.ofInt z).toInt32 = v) (kk : VV p l e R s m args below meth c nL base D Q M k n (pc + 2) lv (.int v :: st)) : VV p l e R s m args below meth c nL base D Q M k n pc lv st := by
  intro H locs ls hW hS hL
  exact lv_bipush C.1 C.2.1 hd hv (kk H locs ls hW hS hL)
theorem V_sipush (C : Cx p l s m args meth c cc nL own base D ct sa) {z : Int} (v : Int32) (hd : decode cc pc = .ok (.sipush z, 3)) (hv : (Int16.ofInt z).toInt32 = v) (kk : VV p l e R s m args below meth c nL base D Q M k n (pc + 3) lv (.int v :: st)) : VV p l e R s m args below meth c nL base D Q M k n pc lv st := by
  intro H locs ls hW hS hL
  exact lv_sipush C.1 C.2.1 hd hv (kk H locs ls hW hS hL)
theorem V_null (C : Cx p l s m args meth c cc nL own base D ct sa) (hd : decode cc pc = .ok (.aconst_null, 1)) (kk : VV p l e R s m args below meth c nL base D Q M k n (pc + 1) lv (.null :: st)) : VV p l e R s m args below meth c nL base D Q M k n pc lv st := by
  intro H locs ls hW hS hL
  exact lv_null C.1 C.2.1 hd (kk H locs ls hW hS hL)
theorem V_iload_n (C : Cx p l s m args meth c cc nL own base D ct sa) {i : Fin 4} {x : Int32} (hd : decode cc pc = .ok (.iload_n i, 1)) (hl : lget lv i = some (.int x)) (kk : VV p l e R s m args below meth c nL base D Q M k n (pc + 1) lv (.int x :: st)) : VV p l e R s m args below meth c nL base D Q M k n pc lv st := by
  intro H locs ls hW hS hL
  exact lv_iload_n C.1 C.2.1 hd rfl (lget_at hL hl) (kk H locs ls hW hS hL)
theorem V_iload (C : Cx p l s m args meth c cc nL own base D ct sa) {i : Nat} {x : Int32} (hd : decode cc pc = .ok (.iload i, 2)) (hl : lget lv i = some (.int x)) (kk : VV p l e R s m args below meth c nL base D Q M k n (pc + 2) lv (.int x :: st)) : VV p l e R s m args below meth c nL base D Q M k n pc lv st := by
  intro H locs ls hW hS hL
  exact lv_iload C.1 C.2.1 hd (lget_at hL hl) (kk H locs ls hW hS hL)
theorem V_aload_n (C : Cx p l s m args meth c cc nL own base D ct sa) {i : Fin 4} {x : Nat} (hd : decode cc pc = .ok (.aload_n i, 1)) (hl : lget lv i = some (.ref x)) (kk : VV p l e R s m args below meth c nL base D Q M k n (pc + 1) lv (.ref x :: st)) : VV p l e R s m args below meth c nL base D Q M k n pc lv st := by
  intro H locs ls hW hS hL
  exact lv_aload_n C.1 C.2.1 hd rfl (lget_at hL hl) (kk H locs ls hW hS hL)
theorem V_aload (C : Cx p l s m args meth c cc nL own base D ct sa) {i : Nat} {x : Nat} (hd : decode cc pc = .ok (.aload i, 2)) (hl : lget lv i = some (.ref x)) (kk : VV p l e R s m args below meth c nL base D Q M k n (pc + 2) lv (.ref x :: st)) : VV p l e R s m args below meth c nL base D Q M k n pc lv st := by
  intro H locs ls hW hS hL
  exact lv_aload C.1 C.2.1 hd (lget_at hL hl) (kk H locs ls hW hS hL)
theorem V_aload_nN (C : Cx p l s m args meth c cc nL own base D ct sa) {i : Fin 4} (hd : decode cc pc = .ok (.aload_n i, 1)) (hl : lget lv i = some .null) (kk : VV p l e R s m args below meth c nL base D Q M k n (pc + 1) lv (.null :: st)) : VV p l e R s m args below meth c nL base D Q M k n pc lv st := by
  intro H locs ls hW hS hL
  exact lv_aload_nN C.1 C.2.1 hd rfl (lget_at hL hl) (kk H locs ls hW hS hL)
theorem V_aloadN (C : Cx p l s m args meth c cc nL own base D ct sa) {i : Nat} (hd : decode cc pc = .ok (.aload i, 2)) (hl : lget lv i = some .null) (kk : VV p l e R s m args below meth c nL base D Q M k n (pc + 2) lv (.null :: st)) : VV p l e R s m args below meth c nL base D Q M k n pc lv st := by
  intro H locs ls hW hS hL
  exact lv_aloadN C.1 C.2.1 hd (lget_at hL hl) (kk H locs ls hW hS hL)
theorem V_istore_n (C : Cx p l s m args meth c cc nL own base D ct sa) {i : Fin 4} {x : Int32} (hd : decode cc pc = .ok (.istore_n i, 1)) (hn : (i : Nat) < nL) (kk : VV p l e R s m args below meth c nL base D Q M k n (pc + 1) (lset lv i (.int x)) st) : VV p l e R s m args below meth c nL base D Q M k n pc lv (.int x :: st) := by
  intro H locs ls hW hS hL
  exact lv_istore_n C.1 C.2.1 hd rfl hL hn rfl (fun ls hl => kk H locs ls hW hS hl)
theorem V_istore (C : Cx p l s m args meth c cc nL own base D ct sa) {i : Nat} {x : Int32} (hd : decode cc pc = .ok (.istore i, 2)) (hn : i < nL) (kk : VV p l e R s m args below meth c nL base D Q M k n (pc + 2) (lset lv i (.int x)) st) : VV p l e R s m args below meth c nL base D Q M k n pc lv (.int x :: st) := by
  intro H locs ls hW hS hL
  exact lv_istore C.1 C.2.1 hd hL hn rfl (fun ls hl => kk H locs ls hW hS hl)
theorem V_astore_n (C : Cx p l s m args meth c cc nL own base D ct sa) {i : Fin 4} {x : Nat} (hd : decode cc pc = .ok (.astore_n i, 1)) (hn : (i : Nat) < nL) (kk : VV p l e R s m args below meth c nL base D Q M k n (pc + 1) (lset lv i (.ref x)) st) : VV p l e R s m args below meth c nL base D Q M k n pc lv (.ref x :: st) := by
  intro H locs ls hW hS hL
  exact lv_astore_n C.1 C.2.1 hd rfl hL hn rfl (fun ls hl => kk H locs ls hW hS hl)
theorem V_astore (C : Cx p l s m args meth c cc nL own base D ct sa) {i : Nat} {x : Nat} (hd : decode cc pc = .ok (.astore i, 2)) (hn : i < nL) (kk : VV p l e R s m args below meth c nL base D Q M k n (pc + 2) (lset lv i (.ref x)) st) : VV p l e R s m args below meth c nL base D Q M k n pc lv (.ref x :: st) := by
  intro H locs ls hW hS hL
  exact lv_astore C.1 C.2.1 hd hL hn rfl (fun ls hl => kk H locs ls hW hS hl)
theorem V_astore_nN (C : Cx p l s m args meth c cc nL own base D ct sa) {i : Fin 4} (hd : decode cc pc = .ok (.astore_n i, 1)) (hn : (i : Nat) < nL) (kk : VV p l e R s m args below meth c nL base D Q M k n (pc + 1) (lset lv i .null) st) : VV p l e R s m args below meth c nL base D Q M k n pc lv (.null :: st) := by
  intro H locs ls hW hS hL
  exact lv_astore_nN C.1 C.2.1 hd rfl hL hn rfl (fun ls hl => kk H locs ls hW hS hl)
theorem V_astoreN (C : Cx p l s m args meth c cc nL own base D ct sa) {i : Nat} (hd : decode cc pc = .ok (.astore i, 2)) (hn : i < nL) (kk : VV p l e R s m args below meth c nL base D Q M k n (pc + 2) (lset lv i .null) st) : VV p l e R s m args below meth c nL base D Q M k n pc lv (.null :: st) := by
  intro H locs ls hW hS hL
  exact lv_astoreN C.1 C.2.1 hd hL hn rfl (fun ls hl => kk H locs ls hW hS hl)
theorem V_iinc (C : Cx p l s m args meth c cc nL own base D ct sa) {i : Nat} {z : Int} {x v : Int32} (hd : decode cc pc = .ok (.iinc i z, 3)) (hl : lget lv i = some (.int x)) (hv : x + Int32.ofInt z = v) (hn : i < nL) (kk : VV p l e R s m args below meth c nL base D Q M k n (pc + 3) (lset lv i (.int v)) st) : VV p l e R s m args below meth c nL base D Q M k n pc lv st := by
  intro H locs ls hW hS hL
  have hL2 : lv_has ls nL ((i, .int x) :: lv) := lsub_has_cons hL hl
  have hle : lset ((i, .int x) :: lv) i (.int v) = lset lv i (.int v) := by simp [lset]
  exact lv_iinc (k := 0) (lv' := lset lv i (.int v)) C.1 C.2.1 hd hL2 rfl hv hn hle (fun ls hl => kk H locs ls hW hS hl)
theorem V_iadd (C : Cx p l s m args meth c cc nL own base D ct sa) {x y : Int32} (hd : decode cc pc = .ok (.iadd, 1)) (kk : VV p l e R s m args below meth c nL base D Q M k n (pc + 1) lv (.int (x + y) :: st)) : VV p l e R s m args below meth c nL base D Q M k n pc lv (.int y :: .int x :: st) := by
  intro H locs ls hW hS hL
  exact lv_iadd C.1 C.2.1 hd (kk H locs ls hW hS hL)
theorem V_isub (C : Cx p l s m args meth c cc nL own base D ct sa) {x y : Int32} (hd : decode cc pc = .ok (.isub, 1)) (kk : VV p l e R s m args below meth c nL base D Q M k n (pc + 1) lv (.int (x - y) :: st)) : VV p l e R s m args below meth c nL base D Q M k n pc lv (.int y :: .int x :: st) := by
  intro H locs ls hW hS hL
  exact lv_isub C.1 C.2.1 hd (kk H locs ls hW hS hL)
theorem V_imul (C : Cx p l s m args meth c cc nL own base D ct sa) {x y : Int32} (hd : decode cc pc = .ok (.imul, 1)) (kk : VV p l e R s m args below meth c nL base D Q M k n (pc + 1) lv (.int (x * y) :: st)) : VV p l e R s m args below meth c nL base D Q M k n pc lv (.int y :: .int x :: st) := by
  intro H locs ls hW hS hL
  exact lv_imul C.1 C.2.1 hd (kk H locs ls hW hS hL)
theorem V_iand (C : Cx p l s m args meth c cc nL own base D ct sa) {x y : Int32} (hd : decode cc pc = .ok (.iand, 1)) (kk : VV p l e R s m args below meth c nL base D Q M k n (pc + 1) lv (.int (x &&& y) :: st)) : VV p l e R s m args below meth c nL base D Q M k n pc lv (.int y :: .int x :: st) := by
  intro H locs ls hW hS hL
  exact lv_iand C.1 C.2.1 hd (kk H locs ls hW hS hL)
theorem V_i2l (C : Cx p l s m args meth c cc nL own base D ct sa) {x : Int32} (hd : decode cc pc = .ok (.i2l, 1)) (kk : VV p l e R s m args below meth c nL base D Q M k n (pc + 1) lv (.long x.toInt64 :: st)) : VV p l e R s m args below meth c nL base D Q M k n pc lv (.int x :: st) := by
  intro H locs ls hW hS hL
  exact lv_i2l C.1 C.2.1 hd rfl (kk H locs ls hW hS hL)
theorem V_lcmp (C : Cx p l s m args meth c cc nL own base D ct sa) {x y : Int64} (hd : decode cc pc = .ok (.lcmp, 1)) (kk : VV p l e R s m args below meth c nL base D Q M k n (pc + 1) lv (.int (lg_cmp x y) :: st)) : VV p l e R s m args below meth c nL base D Q M k n pc lv (.long y :: .long x :: st) := by
  intro H locs ls hW hS hL
  exact W.lcmp C.1 C.2.1 hd (kk H locs ls hW hS hL)
theorem V_dup (C : Cx p l s m args meth c cc nL own base D ct sa) {v : Value} (hd : decode cc pc = .ok (.dup, 1)) (hc : v.category = 1) (kk : VV p l e R s m args below meth c nL base D Q M k n (pc + 1) lv (v :: v :: st)) : VV p l e R s m args below meth c nL base D Q M k n pc lv (v :: st) := by
  intro H locs ls hW hS hL
  exact lv_dup C.1 C.2.1 hd hc (kk H locs ls hW hS hL)
theorem V_if_eq (C : Cx p l s m args meth c cc nL own base D ct sa) {x : Int32} {off : Int} (tgt : Nat) (hd : decode cc pc = .ok (.ifCond .eq off, 3)) (ht : (pc : Int) + off = (tgt : Int)) (kt : x = 0 → VV p l e R s m args below meth c nL base D Q M k n tgt lv st) (kf : ¬ x = 0 → VV p l e R s m args below meth c nL base D Q M k n (pc + 3) lv st) : VV p l e R s m args below meth c nL base D Q M k n pc lv (.int x :: st) := by
  intro H locs ls hW hS hL
  exact lv_if_eq C.1 C.2.1 hd ht (fun h => kt (by first | exact h | exact Int32.not_lt.mp h | omega) H locs ls hW hS hL) (fun h => kf (by first | exact h | exact fun g => h g) H locs ls hW hS hL)
theorem V_icmp_eq (C : Cx p l s m args meth c cc nL own base D ct sa) {x y : Int32} {off : Int} (tgt : Nat) (hd : decode cc pc = .ok (.if_icmp .eq off, 3)) (ht : (pc : Int) + off = (tgt : Int)) (kt : x = y → VV p l e R s m args below meth c nL base D Q M k n tgt lv st) (kf : ¬ x = y → VV p l e R s m args below meth c nL base D Q M k n (pc + 3) lv st) : VV p l e R s m args below meth c nL base D Q M k n pc lv (.int y :: .int x :: st) := by
  intro H locs ls hW hS hL
  exact lv_icmp_eq C.1 C.2.1 hd ht (fun h => kt (by first | exact h | omega) H locs ls hW hS hL) (fun h => kf (by first | exact h | exact fun g => h g) H locs ls hW hS hL)
theorem V_if_ne (C : Cx p l s m args meth c cc nL own base D ct sa) {x : Int32} {off : Int} (tgt : Nat) (hd : decode cc pc = .ok (.ifCond .ne off, 3)) (ht : (pc : Int) + off = (tgt : Int)) (kt : ¬ x = 0 → VV p l e R s m args below meth c nL base D Q M k n tgt lv st) (kf : x = 0 → VV p l e R s m args below meth c nL base D Q M k n (pc + 3) lv st) : VV p l e R s m args below meth c nL base D Q M k n pc lv (.int x :: st) := by
  intro H locs ls hW hS hL
  exact lv_if_ne C.1 C.2.1 hd ht (fun h => kt (by first | exact h | exact Int32.not_lt.mp h | omega) H locs ls hW hS hL) (fun h => kf (by first | exact h | exact fun g => h g) H locs ls hW hS hL)
theorem V_icmp_ne (C : Cx p l s m args meth c cc nL own base D ct sa) {x y : Int32} {off : Int} (tgt : Nat) (hd : decode cc pc = .ok (.if_icmp .ne off, 3)) (ht : (pc : Int) + off = (tgt : Int)) (kt : ¬ x = y → VV p l e R s m args below meth c nL base D Q M k n tgt lv st) (kf : x = y → VV p l e R s m args below meth c nL base D Q M k n (pc + 3) lv st) : VV p l e R s m args below meth c nL base D Q M k n pc lv (.int y :: .int x :: st) := by
  intro H locs ls hW hS hL
  exact lv_icmp_ne C.1 C.2.1 hd ht (fun h => kt (by first | exact h | omega) H locs ls hW hS hL) (fun h => kf (by first | exact h | exact fun g => h g) H locs ls hW hS hL)
theorem V_if_lt (C : Cx p l s m args meth c cc nL own base D ct sa) {x : Int32} {off : Int} (tgt : Nat) (hd : decode cc pc = .ok (.ifCond .lt off, 3)) (ht : (pc : Int) + off = (tgt : Int)) (kt : x < 0 → VV p l e R s m args below meth c nL base D Q M k n tgt lv st) (kf : ¬ x < 0 → VV p l e R s m args below meth c nL base D Q M k n (pc + 3) lv st) : VV p l e R s m args below meth c nL base D Q M k n pc lv (.int x :: st) := by
  intro H locs ls hW hS hL
  exact lv_if_lt C.1 C.2.1 hd ht (fun h => kt (by first | exact h | exact Int32.not_lt.mp h | omega) H locs ls hW hS hL) (fun h => kf (by first | exact h | exact fun g => h g) H locs ls hW hS hL)
theorem V_icmp_lt (C : Cx p l s m args meth c cc nL own base D ct sa) {x y : Int32} {off : Int} (tgt : Nat) (hd : decode cc pc = .ok (.if_icmp .lt off, 3)) (ht : (pc : Int) + off = (tgt : Int)) (kt : x < y → VV p l e R s m args below meth c nL base D Q M k n tgt lv st) (kf : ¬ x < y → VV p l e R s m args below meth c nL base D Q M k n (pc + 3) lv st) : VV p l e R s m args below meth c nL base D Q M k n pc lv (.int y :: .int x :: st) := by
  intro H locs ls hW hS hL
  exact lv_icmp_lt C.1 C.2.1 hd ht (fun h => kt (by first | exact h | omega) H locs ls hW hS hL) (fun h => kf (by first | exact h | exact fun g => h g) H locs ls hW hS hL)
theorem V_if_ge (C : Cx p l s m args meth c cc nL own base D ct sa) {x : Int32} {off : Int} (tgt : Nat) (hd : decode cc pc = .ok (.ifCond .ge off, 3)) (ht : (pc : Int) + off = (tgt : Int)) (kt : 0 ≤ x → VV p l e R s m args below meth c nL base D Q M k n tgt lv st) (kf : ¬ 0 ≤ x → VV p l e R s m args below meth c nL base D Q M k n (pc + 3) lv st) : VV p l e R s m args below meth c nL base D Q M k n pc lv (.int x :: st) := by
  intro H locs ls hW hS hL
  exact lv_if_ge C.1 C.2.1 hd ht (fun h => kt (by first | exact h | exact Int32.not_lt.mp h | omega) H locs ls hW hS hL) (fun h => kf (by first | exact h | exact fun g => h g) H locs ls hW hS hL)
theorem V_icmp_ge (C : Cx p l s m args meth c cc nL own base D ct sa) {x y : Int32} {off : Int} (tgt : Nat) (hd : decode cc pc = .ok (.if_icmp .ge off, 3)) (ht : (pc : Int) + off = (tgt : Int)) (kt : y ≤ x → VV p l e R s m args below meth c nL base D Q M k n tgt lv st) (kf : ¬ y ≤ x → VV p l e R s m args below meth c nL base D Q M k n (pc + 3) lv st) : VV p l e R s m args below meth c nL base D Q M k n pc lv (.int y :: .int x :: st) := by
  intro H locs ls hW hS hL
  exact lv_icmp_ge C.1 C.2.1 hd ht (fun h => kt (by first | exact h | omega) H locs ls hW hS hL) (fun h => kf (by first | exact h | exact fun g => h g) H locs ls hW hS hL)
theorem V_if_gt (C : Cx p l s m args meth c cc nL own base D ct sa) {x : Int32} {off : Int} (tgt : Nat) (hd : decode cc pc = .ok (.ifCond .gt off, 3)) (ht : (pc : Int) + off = (tgt : Int)) (kt : 0 < x → VV p l e R s m args below meth c nL base D Q M k n tgt lv st) (kf : ¬ 0 < x → VV p l e R s m args below meth c nL base D Q M k n (pc + 3) lv st) : VV p l e R s m args below meth c nL base D Q M k n pc lv (.int x :: st) := by
  intro H locs ls hW hS hL
  exact lv_if_gt C.1 C.2.1 hd ht (fun h => kt (by first | exact h | exact Int32.not_lt.mp h | omega) H locs ls hW hS hL) (fun h => kf (by first | exact h | exact fun g => h g) H locs ls hW hS hL)
theorem V_icmp_gt (C : Cx p l s m args meth c cc nL own base D ct sa) {x y : Int32} {off : Int} (tgt : Nat) (hd : decode cc pc = .ok (.if_icmp .gt off, 3)) (ht : (pc : Int) + off = (tgt : Int)) (kt : y < x → VV p l e R s m args below meth c nL base D Q M k n tgt lv st) (kf : ¬ y < x → VV p l e R s m args below meth c nL base D Q M k n (pc + 3) lv st) : VV p l e R s m args below meth c nL base D Q M k n pc lv (.int y :: .int x :: st) := by
  intro H locs ls hW hS hL
  exact lv_icmp_gt C.1 C.2.1 hd ht (fun h => kt (by first | exact h | omega) H locs ls hW hS hL) (fun h => kf (by first | exact h | exact fun g => h g) H locs ls hW hS hL)
theorem V_if_le (C : Cx p l s m args meth c cc nL own base D ct sa) {x : Int32} {off : Int} (tgt : Nat) (hd : decode cc pc = .ok (.ifCond .le off, 3)) (ht : (pc : Int) + off = (tgt : Int)) (kt : x ≤ 0 → VV p l e R s m args below meth c nL base D Q M k n tgt lv st) (kf : ¬ x ≤ 0 → VV p l e R s m args below meth c nL base D Q M k n (pc + 3) lv st) : VV p l e R s m args below meth c nL base D Q M k n pc lv (.int x :: st) := by
  intro H locs ls hW hS hL
  exact lv_if_le C.1 C.2.1 hd ht (fun h => kt (by first | exact h | exact Int32.not_lt.mp h | omega) H locs ls hW hS hL) (fun h => kf (by first | exact h | exact fun g => h g) H locs ls hW hS hL)
theorem V_icmp_le (C : Cx p l s m args meth c cc nL own base D ct sa) {x y : Int32} {off : Int} (tgt : Nat) (hd : decode cc pc = .ok (.if_icmp .le off, 3)) (ht : (pc : Int) + off = (tgt : Int)) (kt : x ≤ y → VV p l e R s m args below meth c nL base D Q M k n tgt lv st) (kf : ¬ x ≤ y → VV p l e R s m args below meth c nL base D Q M k n (pc + 3) lv st) : VV p l e R s m args below meth c nL base D Q M k n pc lv (.int y :: .int x :: st) := by
  intro H locs ls hW hS hL
  exact lv_icmp_le C.1 C.2.1 hd ht (fun h => kt (by first | exact h | omega) H locs ls hW hS hL) (fun h => kf (by first | exact h | exact fun g => h g) H locs ls hW hS hL)
theorem V_goto (C : Cx p l s m args meth c cc nL own base D ct sa) {off : Int} (tgt : Nat) (hd : decode cc pc = .ok (.goto off, 3)) (ht : (pc : Int) + off = (tgt : Int)) (kk : VV p l e R s m args below meth c nL base D Q M k n tgt lv st) : VV p l e R s m args below meth c nL base D Q M k n pc lv st := by
  intro H locs ls hW hS hL
  exact lv_goto C.1 C.2.1 hd ht (kk H locs ls hW hS hL)
theorem V_ifnull (C : Cx p l s m args meth c cc nL own base D ct sa) {x : Nat} {off : Int} (hd : decode cc pc = .ok (.ifnull off, 3)) (kk : VV p l e R s m args below meth c nL base D Q M k n (pc + 3) lv st) : VV p l e R s m args below meth c nL base D Q M k n pc lv (.ref x :: st) := by
  intro H locs ls hW hS hL
  exact lv_ifnull C.1 C.2.1 hd (kk H locs ls hW hS hL)
theorem V_ifnullN (C : Cx p l s m args meth c cc nL own base D ct sa) {off : Int} (tgt : Nat) (hd : decode cc pc = .ok (.ifnull off, 3)) (ht : (pc : Int) + off = (tgt : Int)) (kk : VV p l e R s m args below meth c nL base D Q M k n tgt lv st) : VV p l e R s m args below meth c nL base D Q M k n pc lv (.null :: st) := by
  intro H locs ls hW hS hL
  exact lv_ifnullN C.1 C.2.1 hd ht (kk H locs ls hW hS hL)
theorem V_ifnonnull (C : Cx p l s m args meth c cc nL own base D ct sa) {x : Nat} {off : Int} (tgt : Nat) (hd : decode cc pc = .ok (.ifnonnull off, 3)) (ht : (pc : Int) + off = (tgt : Int)) (kk : VV p l e R s m args below meth c nL base D Q M k n tgt lv st) : VV p l e R s m args below meth c nL base D Q M k n pc lv (.ref x :: st) := by
  intro H locs ls hW hS hL
  exact lv_ifnonnull C.1 C.2.1 hd ht (kk H locs ls hW hS hL)
theorem V_ifnonnullN (C : Cx p l s m args meth c cc nL own base D ct sa) {off : Int} (hd : decode cc pc = .ok (.ifnonnull off, 3)) (kk : VV p l e R s m args below meth c nL base D Q M k n (pc + 3) lv st) : VV p l e R s m args below meth c nL base D Q M k n pc lv (.null :: st) := by
  intro H locs ls hW hS hL
  exact lv_ifnonnullN C.1 C.2.1 hd (kk H locs ls hW hS hL)
theorem V_get (C : Cx p l s m args meth c cc nL own base D ct sa) {a ci index : Nat} {ref Cn : String} {T : u_T} {N : Nat} {fs : List Value} {v : Value} (hm : M a = some (.inr (ci, fs))) (hc : clG[ci]? = some (Cn, T, N)) (hin : ∀ w ∈ u_ws Cn T N, w ∈ WL) (j : Nat) (hj : j < N) (hl : Cond.fieldLink own index ref (T j).2.1 (T j).2.2.1 ∈ WL) (href : (T j).1 = ref) (hv : fs[j]? = some v) (hd : decode cc pc = .ok (.getfield index, 3)) (kk : VV p l e R s m args below meth c nL base D Q M k n (pc + 3) lv (v :: st)) : VV p l e R s m args below meth c nL base D Q M k n pc lv (.ref a :: st) := by
  intro H locs ls hW hS hL
  obtain ⟨L, f, h1, h2, h3⟩ := id hW
  obtain ⟨q0, hq⟩ := pl_at (h1 a _ hm)
  subst href
  exact va_get C.1 C.2.1 C.2.2.2.2.1 hin C.2.2.2.1 C.2.2.2.2.2.1.2.1 h2 q0 hq hc j hj (C.2.2.2.2.1 _ hl) (fun _ h => h) hv hd (kk H locs ls hW hS hL)
theorem V_put (C : Cx p l s m args meth c cc nL own base D ct sa) {a ci index : Nat} {ref Cn : String} {T : u_T} {N : Nat} {fs : List Value} {v : Value} (hm : M a = some (.inr (ci, fs))) (hc : clG[ci]? = some (Cn, T, N)) (hin : ∀ w ∈ u_ws Cn T N, w ∈ WL) (j : Nat) (hj : j < N) (hl : Cond.fieldLink own index ref (T j).2.1 (T j).2.2.1 ∈ WL) (href : (T j).1 = ref) (ty0 : Nat → FieldType) (hty : ∀ k, k < N → parseFieldDescriptor (T k).2.2.1 = some (ty0 k)) (hnm : ∀ a, a < N → ∀ b, b < N → a ≠ b → (T a).2.1 ≠ (T b).2.1) (hfin : (T j).2.2.2 = false) (hn : narrow (ty0 j) v = v) (hfit : fits (ty0 j) v = true) (hlen : j < fs.length) (hd : decode cc pc = .ok (.putfield index, 3)) (kk : VV p l e R s m args below meth c nL base D Q (mput M a (.inr (ci, fs.set j v))) k n (pc + 3) lv st) : VV p l e R s m args below meth c nL base D Q M k n pc lv (v :: .ref a :: st) := by
  intro H locs ls hW hS hL
  obtain ⟨L, f, h1, h2, h3⟩ := id hW
  obtain ⟨q0, hq⟩ := pl_at (h1 a _ hm)
  subst href
  exact va_put C.1 C.2.1 C.2.2.2.2.1 hin ty0 hty hnm C.2.2.2.1 C.2.2.2.2.2.1.2.1 h2 h3 hS q0 hq hc j hj (C.2.2.2.2.1 _ hl) (fun _ h => h) hfin (hty j hj) hn hfit hlen hd (fun H1 locs1 hP1 hD1 hS1 => kk H1 locs1 ls (Wd.set h1 h3 hm hq hP1 hD1) hS1 hL)
theorem V_putF (C : Cx p l s m args meth c cc nL own base D ct sa) {a ci index : Nat} {ref Cn : String} {T : u_T} {N : Nat} {fs : List Value} {v : Value} (hm : M a = some (.inr (ci, fs))) (hc : clG[ci]? = some (Cn, T, N)) (hin : ∀ w ∈ u_ws Cn T N, w ∈ WL) (j : Nat) (hj : j < N) (hl : Cond.fieldLink own index ref (T j).2.1 (T j).2.2.1 ∈ WL) (href : (T j).1 = ref) (ty0 : Nat → FieldType) (hty : ∀ k, k < N → parseFieldDescriptor (T k).2.2.1 = some (ty0 k)) (hnm : ∀ a, a < N → ∀ b, b < N → a ≠ b → (T a).2.1 ≠ (T b).2.1) (hfin : (T j).2.2.2 = true) (hname : meth.name = "<init>") (hown : (T j).1 = own) (hn : narrow (ty0 j) v = v) (hfit : fits (ty0 j) v = true) (hlen : j < fs.length) (hd : decode cc pc = .ok (.putfield index, 3)) (kk : VV p l e R s m args below meth c nL base D Q (mput M a (.inr (ci, fs.set j v))) k n (pc + 3) lv st) : VV p l e R s m args below meth c nL base D Q M k n pc lv (v :: .ref a :: st) := by
  intro H locs ls hW hS hL
  obtain ⟨L, f, h1, h2, h3⟩ := id hW
  obtain ⟨q0, hq⟩ := pl_at (h1 a _ hm)
  subst href
  exact va_putF C.1 C.2.1 C.2.2.2.2.1 hin ty0 hty hnm C.2.2.2.1 C.2.2.2.2.2.1.2.1 h2 h3 hS q0 hq hc j hj (C.2.2.2.2.1 _ hl) (fun _ h => h) hfin hname hown (hty j hj) hn hfit hlen hd (fun H1 locs1 hP1 hD1 hS1 => kk H1 locs1 ls (Wd.set h1 h3 hm hq hP1 hD1) hS1 hL)
theorem V_iald (C : Cx p l s m args meth c cc nL own base D ct sa) {a N : Nat} {f : Nat → Int32} {i : Int32} (hm : M a = some (.inl (ct 0, N, .inl f))) (hi : vp_in i N) (hd : decode cc pc = .ok (.iaload, 1)) (kk : VV p l e R s m args below meth c nL base D Q M k n (pc + 1) lv (.int (f i.toNatClampNeg) :: st)) : VV p l e R s m args below meth c nL base D Q M k n pc lv (.int i :: .ref a :: st) := by
  intro H locs ls hW hS hL
  obtain ⟨L, f9, h1, h2, h3⟩ := id hW
  obtain ⟨q0, hq⟩ := pl_at (h1 a _ hm)
  exact va_iald C.1 C.2.1 C.2.2.2.2.2.1.2.1 h2 q0 0 hq rfl hi hd (kk H locs ls hW hS hL)
theorem V_zald (C : Cx p l s m args meth c cc nL own base D ct sa) {a N : Nat} {f : Nat → Int32} {i : Int32} (hm : M a = some (.inl (ct 1, N, .inl f))) (hi : vp_in i N) (hd : decode cc pc = .ok (.baload, 1)) (kk : VV p l e R s m args below meth c nL base D Q M k n (pc + 1) lv (.int (f i.toNatClampNeg) :: st)) : VV p l e R s m args below meth c nL base D Q M k n pc lv (.int i :: .ref a :: st) := by
  intro H locs ls hW hS hL
  obtain ⟨L, f9, h1, h2, h3⟩ := id hW
  obtain ⟨q0, hq⟩ := pl_at (h1 a _ hm)
  exact va_zald C.1 C.2.1 C.2.2.2.2.2.1.2.1 h2 q0 1 hq rfl hi hd (kk H locs ls hW hS hL)
theorem V_lald (C : Cx p l s m args meth c cc nL own base D ct sa) {a N : Nat} {f : Nat → Int64} {i : Int32} (hm : M a = some (.inl (ct 2, N, .inr (.inl f)))) (hi : vp_in i N) (hd : decode cc pc = .ok (.laload, 1)) (kk : VV p l e R s m args below meth c nL base D Q M k n (pc + 1) lv (.long (f i.toNatClampNeg) :: st)) : VV p l e R s m args below meth c nL base D Q M k n pc lv (.int i :: .ref a :: st) := by
  intro H locs ls hW hS hL
  obtain ⟨L, f9, h1, h2, h3⟩ := id hW
  obtain ⟨q0, hq⟩ := pl_at (h1 a _ hm)
  exact va_lald C.1 C.2.1 C.2.2.2.2.2.1.2.1 h2 q0 2 hq rfl hi hd (kk H locs ls hW hS hL)
theorem V_aldS (C : Cx p l s m args meth c cc nL own base D ct sa) {a N : Nat} {f : Nat → Option Nat} {i : Int32} (hm : M a = some (.inl (ct 3, N, .inr (.inr (.inr (.inr f)))))) (hi : vp_in i N) (hd : decode cc pc = .ok (.aaload, 1)) (kk : VV p l e R s m args below meth c nL base D Q M k n (pc + 1) lv (va_rf (f i.toNatClampNeg) :: st)) : VV p l e R s m args below meth c nL base D Q M k n pc lv (.int i :: .ref a :: st) := by
  intro H locs ls hW hS hL
  obtain ⟨L, f9, h1, h2, h3⟩ := id hW
  obtain ⟨q0, hq⟩ := pl_at (h1 a _ hm)
  exact va_aldq C.1 C.2.1 C.2.2.2.2.2.1.2.1 h2 q0 3 hq rfl hi hd (kk H locs ls hW hS hL)
theorem V_aldT (C : Cx p l s m args meth c cc nL own base D ct sa) {a N : Nat} {f : Nat → Option Nat} {i : Int32} (hm : M a = some (.inl (ct 4, N, .inr (.inr (.inr (.inr f)))))) (hi : vp_in i N) (hd : decode cc pc = .ok (.aaload, 1)) (kk : VV p l e R s m args below meth c nL base D Q M k n (pc + 1) lv (va_rf (f i.toNatClampNeg) :: st)) : VV p l e R s m args below meth c nL base D Q M k n pc lv (.int i :: .ref a :: st) := by
  intro H locs ls hW hS hL
  obtain ⟨L, f9, h1, h2, h3⟩ := id hW
  obtain ⟨q0, hq⟩ := pl_at (h1 a _ hm)
  exact va_aldq C.1 C.2.1 C.2.2.2.2.2.1.2.1 h2 q0 4 hq rfl hi hd (kk H locs ls hW hS hL)
theorem V_iast (C : Cx p l s m args meth c cc nL own base D ct sa) {a N : Nat} {f : Nat → Int32} {i : Int32} {x : Int32} (hm : M a = some (.inl (ct 0, N, .inl f))) (hi : vp_in i N) (hd : decode cc pc = .ok (.iastore, 1)) (kk : VV p l e R s m args below meth c nL base D Q (mput M a (.inl (ct 0, N, .inl (upd f i.toNatClampNeg x)))) k n (pc + 1) lv st) : VV p l e R s m args below meth c nL base D Q M k n pc lv (.int x :: .int i :: .ref a :: st) := by
  intro H locs ls hW hS hL
  obtain ⟨L, f9, h1, h2, h3⟩ := id hW
  obtain ⟨q0, hq⟩ := pl_at (h1 a _ hm)
  exact va_iast C.1 C.2.1 C.2.2.2.2.2.1.2.1 h2 h3 hS q0 0 hq rfl hi hd (fun H1 locs1 hP1 hD1 hS1 => kk H1 locs1 ls (Wd.set h1 h3 hm hq hP1 hD1) hS1 hL)
theorem V_last (C : Cx p l s m args meth c cc nL own base D ct sa) {a N : Nat} {f : Nat → Int64} {i : Int32} {x : Int64} (hm : M a = some (.inl (ct 2, N, .inr (.inl f)))) (hi : vp_in i N) (hd : decode cc pc = .ok (.lastore, 1)) (kk : VV p l e R s m args below meth c nL base D Q (mput M a (.inl (ct 2, N, .inr (.inl (vp_updL f i.toNatClampNeg x))))) k n (pc + 1) lv st) : VV p l e R s m args below meth c nL base D Q M k n pc lv (.long x :: .int i :: .ref a :: st) := by
  intro H locs ls hW hS hL
  obtain ⟨L, f9, h1, h2, h3⟩ := id hW
  obtain ⟨q0, hq⟩ := pl_at (h1 a _ hm)
  exact va_last C.1 C.2.1 C.2.2.2.2.2.1.2.1 h2 h3 hS q0 2 hq rfl hi hd (fun H1 locs1 hP1 hD1 hS1 => kk H1 locs1 ls (Wd.set h1 h3 hm hq hP1 hD1) hS1 hL)
theorem V_zast (C : Cx p l s m args meth c cc nL own base D ct sa) {a N : Nat} {f : Nat → Int32} {i : Int32} {x : Int32} (hm : M a = some (.inl (ct 1, N, .inl f))) (hi : vp_in i N) (hd : decode cc pc = .ok (.bastore, 1)) (kk : VV p l e R s m args below meth c nL base D Q (mput M a (.inl (ct 1, N, .inl (upd f i.toNatClampNeg (vp_nar .boolean x))))) k n (pc + 1) lv st) : VV p l e R s m args below meth c nL base D Q M k n pc lv (.int x :: .int i :: .ref a :: st) := by
  intro H locs ls hW hS hL
  obtain ⟨L, f9, h1, h2, h3⟩ := id hW
  obtain ⟨q0, hq⟩ := pl_at (h1 a _ hm)
  exact va_zast C.1 C.2.1 C.2.2.2.2.2.1.2.1 h2 h3 hS q0 1 hq rfl hi hd (fun H1 locs1 hP1 hD1 hS1 => kk H1 locs1 ls (Wd.set h1 h3 hm hq hP1 hD1) hS1 hL)
theorem V_aastS (C : Cx p l s m args meth c cc nL own base D ct sa) {a N x : Nat} {f : Nat → Option Nat} {i : Int32} {vs : List Value} (hm : M a = some (.inl (ct 3, N, .inr (.inr (.inr (.inr f)))))) (hx : M x = some (.inr (1, vs))) (hi : vp_in i N) (hd : decode cc pc = .ok (.aastore, 1)) (kk : VV p l e R s m args below meth c nL base D Q (mput M a (.inl (ct 3, N, .inr (.inr (.inr (.inr (va_up f i.toNatClampNeg (some x)))))))) k n (pc + 1) lv st) : VV p l e R s m args below meth c nL base D Q M k n pc lv (.ref x :: .int i :: .ref a :: st) := by
  intro H locs ls hW hS hL
  obtain ⟨L, f9, h1, h2, h3⟩ := id hW
  obtain ⟨q0, hq⟩ := pl_at (h1 a _ hm)
  obtain ⟨q1, hq1⟩ := pl_at (h1 x _ hx)
  exact va_astq C.1 C.2.1 C.2.2.2.2.2.1.2.1 h2 h3 hS q0 3 q1 1 hq rfl hq1 rfl hi hd (fun H1 locs1 hP1 hD1 hS1 => kk H1 locs1 ls (Wd.set h1 h3 hm hq hP1 hD1) hS1 hL)
theorem V_aastT (C : Cx p l s m args meth c cc nL own base D ct sa) {a N x : Nat} {f : Nat → Option Nat} {i : Int32} {vs : List Value} (hm : M a = some (.inl (ct 4, N, .inr (.inr (.inr (.inr f)))))) (hx : M x = some (.inr (2, vs))) (hi : vp_in i N) (hd : decode cc pc = .ok (.aastore, 1)) (kk : VV p l e R s m args below meth c nL base D Q (mput M a (.inl (ct 4, N, .inr (.inr (.inr (.inr (va_up f i.toNatClampNeg (some x)))))))) k n (pc + 1) lv st) : VV p l e R s m args below meth c nL base D Q M k n pc lv (.ref x :: .int i :: .ref a :: st) := by
  intro H locs ls hW hS hL
  obtain ⟨L, f9, h1, h2, h3⟩ := id hW
  obtain ⟨q0, hq⟩ := pl_at (h1 a _ hm)
  obtain ⟨q1, hq1⟩ := pl_at (h1 x _ hx)
  exact va_astq C.1 C.2.1 C.2.2.2.2.2.1.2.1 h2 h3 hS q0 4 q1 2 hq rfl hq1 rfl hi hd (fun H1 locs1 hP1 hD1 hS1 => kk H1 locs1 ls (Wd.set h1 h3 hm hq hP1 hD1) hS1 hL)
theorem V_aldU (C : Cx p l s m args meth c cc nL own base D ct sa) {a N : Nat} {f : Nat → Option Nat} {i : Int32} (hm : M a = some (.inl (ct 5, N, .inr (.inr (.inr (.inr f)))))) (hi : vp_in i N) (hd : decode cc pc = .ok (.aaload, 1)) (kk : VV p l e R s m args below meth c nL base D Q M k n (pc + 1) lv (va_rf (f i.toNatClampNeg) :: st)) : VV p l e R s m args below meth c nL base D Q M k n pc lv (.int i :: .ref a :: st) := by
  intro H locs ls hW hS hL
  obtain ⟨L, f9, h1, h2, h3⟩ := id hW
  obtain ⟨q0, hq⟩ := pl_at (h1 a _ hm)
  have hlt : i.toNatClampNeg < N := Nat.not_le.mp fun q => hi (Or.inr q)
  exact W.aald (v := va_rf (f i.toNatClampNeg)) (ty := .array .int) C.1 C.2.1 (h2 q0 _ hq) ((C.2.2.2.2.2.1.2.1.2 5 _ rfl).1 N (fun j => va_rf (f j))) rfl (fun q => by cases q) (by show ¬ (i < 0 ∨ (arrV _ _ _).slots.size ≤ _); rw [arrV_size]; exact hi) (by show (arrV _ _ _).slots[_]? = _; rw [arrV_read _ _ hlt]) rfl rfl hd (kk H locs ls hW hS hL)
theorem V_new (C : Cx p l s m args meth c cc nL own base D ct sa) {ci index : Nat} {Cn : String} {T : u_T} {N : Nat} {fs : List Value} (hc : clG[ci]? = some (Cn, T, N)) (hin : ∀ w ∈ u_ws Cn T N, w ∈ WL) (ty0 : Nat → FieldType) (hty : ∀ k, k < N → parseFieldDescriptor (T k).2.2.1 = some (ty0 k)) (hl : Cond.classLink own index Cn ∈ WL) (hinst : Cond.instantiable Cn N ∈ WL) (hini : Cond.initialized Cn ∈ WL) (hfs : ∀ j, j < N → defaultValue (ty0 j) = vp_V fs j) (hk : k + 1 ≤ R.cells) (hs : n + N ≤ R.slots) (hd : decode cc pc = .ok (.new index, 3)) (kk : ∀ q : Nat, M q = none → VV p l e R s m args below meth c nL base D Q (mput M q (.inr (ci, fs))) (k + 1) (n + N) (pc + 3) lv (.ref q :: st)) : VV p l e R s m args below meth c nL base D Q M k n pc lv st := by
  intro H locs ls hW hS hL
  obtain ⟨L, f9, h1, h2, h3⟩ := id hW
  exact va_new C.1 C.2.1 C.2.2.2.2.1 hin ty0 hty C.2.2.2.1 (C.2.2.2.2.1 _ hl) (C.2.2.2.2.1 _ hinst) (C.2.2.2.2.1 _ hini) C.2.2.2.2.2.1.2.1 h2 h3 hS C.hA hc hfs hk hs hd (fun q H1 hP1 hD1 hS1 => kk q (Wd.push h1 h2 hD1 hP1).2 H1 locs ls (Wd.push h1 h2 hD1 hP1).1 hS1 hL)
theorem V_newI (C : Cx p l s m args meth c cc nL own base D ct sa) {z : Int32} (N : Nat) (hw : Cond.arrayClass .int ∈ WL) (hz : ¬ z < 0) (hN : z.toNatClampNeg = N) (hb : N * componentBytes .int ≤ 536870912) (hk : k + 1 ≤ R.cells) (hs : n + N ≤ R.slots) (hd : decode cc pc = .ok (.newarray .int, 2)) (kk : ∀ q : Nat, M q = none → VV p l e R s m args below meth c nL base D Q (mput M q (.inl (ct 0, N, .inl (fun _ => 0)))) (k + 1) (n + N) (pc + 2) lv (.ref q :: st)) : VV p l e R s m args below meth c nL base D Q M k n pc lv (.int z :: st) := by
  intro H locs ls hW hS hL
  obtain ⟨L, f9, h1, h2, h3⟩ := id hW
  refine va_newa (atype := .int) (a0 := (N, .inl (fun _ => 0))) C.1 C.2.1 (C.2.2.2.2.1 _ hw) rfl C.2.2.2.2.2.1.2.1 h2 h3 hS C.hA (fun cA => rfl) hz hN hb hk hs hd (fun q cA H1 hK1 hP1 hD1 hS1 => ?_)
  have e1 : s.vm.findClass ("[" ++ (.int : FieldType).toString) = some cA := (hK1.2 6 _ rfl).2
  have e2 : s.vm.findClass ("[" ++ (.int : FieldType).toString) = some (ct 0) := (hK1.2 0 _ rfl).2
  have e3 : cA = ct 0 := Option.some.inj (e1.symm.trans e2)
  subst e3
  exact kk q (Wd.push h1 h2 hD1 hP1).2 H1 locs ls (Wd.push h1 h2 hD1 hP1).1 hS1 hL
theorem V_newZ (C : Cx p l s m args meth c cc nL own base D ct sa) {z : Int32} (N : Nat) (hw : Cond.arrayClass .boolean ∈ WL) (hz : ¬ z < 0) (hN : z.toNatClampNeg = N) (hb : N * componentBytes .boolean ≤ 536870912) (hk : k + 1 ≤ R.cells) (hs : n + N ≤ R.slots) (hd : decode cc pc = .ok (.newarray .boolean, 2)) (kk : ∀ q : Nat, M q = none → VV p l e R s m args below meth c nL base D Q (mput M q (.inl (ct 1, N, .inl (fun _ => 0)))) (k + 1) (n + N) (pc + 2) lv (.ref q :: st)) : VV p l e R s m args below meth c nL base D Q M k n pc lv (.int z :: st) := by
  intro H locs ls hW hS hL
  obtain ⟨L, f9, h1, h2, h3⟩ := id hW
  refine va_newa (atype := .boolean) (a0 := (N, .inl (fun _ => 0))) C.1 C.2.1 (C.2.2.2.2.1 _ hw) rfl C.2.2.2.2.2.1.2.1 h2 h3 hS C.hA (fun cA => rfl) hz hN hb hk hs hd (fun q cA H1 hK1 hP1 hD1 hS1 => ?_)
  have e1 : s.vm.findClass ("[" ++ (.boolean : FieldType).toString) = some cA := (hK1.2 6 _ rfl).2
  have e2 : s.vm.findClass ("[" ++ (.boolean : FieldType).toString) = some (ct 1) := (hK1.2 1 _ rfl).2
  have e3 : cA = ct 1 := Option.some.inj (e1.symm.trans e2)
  subst e3
  exact kk q (Wd.push h1 h2 hD1 hP1).2 H1 locs ls (Wd.push h1 h2 hD1 hP1).1 hS1 hL
theorem V_newJ (C : Cx p l s m args meth c cc nL own base D ct sa) {z : Int32} (N : Nat) (hw : Cond.arrayClass .long ∈ WL) (hz : ¬ z < 0) (hN : z.toNatClampNeg = N) (hb : N * componentBytes .long ≤ 536870912) (hk : k + 1 ≤ R.cells) (hs : n + N ≤ R.slots) (hd : decode cc pc = .ok (.newarray .long, 2)) (kk : ∀ q : Nat, M q = none → VV p l e R s m args below meth c nL base D Q (mput M q (.inl (ct 2, N, .inr (.inl (fun _ => 0))))) (k + 1) (n + N) (pc + 2) lv (.ref q :: st)) : VV p l e R s m args below meth c nL base D Q M k n pc lv (.int z :: st) := by
  intro H locs ls hW hS hL
  obtain ⟨L, f9, h1, h2, h3⟩ := id hW
  refine va_newa (atype := .long) (a0 := (N, .inr (.inl (fun _ => 0)))) C.1 C.2.1 (C.2.2.2.2.1 _ hw) rfl C.2.2.2.2.2.1.2.1 h2 h3 hS C.hA (fun cA => rfl) hz hN hb hk hs hd (fun q cA H1 hK1 hP1 hD1 hS1 => ?_)
  have e1 : s.vm.findClass ("[" ++ (.long : FieldType).toString) = some cA := (hK1.2 6 _ rfl).2
  have e2 : s.vm.findClass ("[" ++ (.long : FieldType).toString) = some (ct 2) := (hK1.2 2 _ rfl).2
  have e3 : cA = ct 2 := Option.some.inj (e1.symm.trans e2)
  subst e3
  exact kk q (Wd.push h1 h2 hD1 hP1).2 H1 locs ls (Wd.push h1 h2 hD1 hP1).1 hS1 hL
theorem V_newS (C : Cx p l s m args meth c cc nL own base D ct sa) {z : Int32} {index : Nat} (N : Nat) (hl : Cond.classLink own index RX1 ∈ WL) (hz : ¬ z < 0) (hN : z.toNatClampNeg = N) (hb : N * 4 ≤ 536870912) (hk : k + 1 ≤ R.cells) (hs : n + N ≤ R.slots) (hd : decode cc pc = .ok (.anewarray index, 3)) (kk : ∀ q : Nat, M q = none → VV p l e R s m args below meth c nL base D Q (mput M q (.inl (ct 3, N, .inr (.inr (.inr (.inr (fun _ => none))))))) (k + 1) (n + N) (pc + 3) lv (.ref q :: st)) : VV p l e R s m args below meth c nL base D Q M k n pc lv (.int z :: st) := by
  intro H locs ls hW hS hL
  obtain ⟨L, f9, h1, h2, h3⟩ := id hW
  refine va_newq C.1 C.2.1 C.2.2.2.1 (C.2.2.2.2.1 _ hl) C.2.2.2.2.2.1.2.2.2.2.2.2.2.1 C.2.2.2.2.2.1.2.1 h2 h3 hS C.hA hz hN hb hk hs hd (fun q cA H1 hK1 hP1 hD1 hS1 => ?_)
  obtain ⟨_, _, _, _, _, e1⟩ := (hK1.2 6 _ rfl).2
  obtain ⟨_, _, _, _, _, e2⟩ := (hK1.2 3 _ rfl).2
  have e3 : cA = ct 3 := Option.some.inj (e1.symm.trans e2)
  subst e3
  exact kk q (Wd.push h1 h2 hD1 hP1).2 H1 locs ls (Wd.push h1 h2 hD1 hP1).1 hS1 hL
theorem V_newT (C : Cx p l s m args meth c cc nL own base D ct sa) {z : Int32} {index : Nat} (N : Nat) (hl : Cond.classLink own index RX2 ∈ WL) (hz : ¬ z < 0) (hN : z.toNatClampNeg = N) (hb : N * 4 ≤ 536870912) (hk : k + 1 ≤ R.cells) (hs : n + N ≤ R.slots) (hd : decode cc pc = .ok (.anewarray index, 3)) (kk : ∀ q : Nat, M q = none → VV p l e R s m args below meth c nL base D Q (mput M q (.inl (ct 4, N, .inr (.inr (.inr (.inr (fun _ => none))))))) (k + 1) (n + N) (pc + 3) lv (.ref q :: st)) : VV p l e R s m args below meth c nL base D Q M k n pc lv (.int z :: st) := by
  intro H locs ls hW hS hL
  obtain ⟨L, f9, h1, h2, h3⟩ := id hW
  refine va_newq C.1 C.2.1 C.2.2.2.1 (C.2.2.2.2.1 _ hl) C.2.2.2.2.2.1.2.2.2.2.2.2.1 C.2.2.2.2.2.1.2.1 h2 h3 hS C.hA hz hN hb hk hs hd (fun q cA H1 hK1 hP1 hD1 hS1 => ?_)
  obtain ⟨_, _, _, _, _, e1⟩ := (hK1.2 6 _ rfl).2
  obtain ⟨_, _, _, _, _, e2⟩ := (hK1.2 4 _ rfl).2
  have e3 : cA = ct 4 := Option.some.inj (e1.symm.trans e2)
  subst e3
  exact kk q (Wd.push h1 h2 hD1 hP1).2 H1 locs ls (Wd.push h1 h2 hD1 hP1).1 hS1 hL
theorem V_objInit (C : Cx p l s m args meth c cc nL own base D ct sa) {a index : Nat} (hl : Cond.methodLink own index objectInit ∈ WL) (hi : Cond.instanceMethod objectInit ∈ WL) (hc : Cond.code objectInit ⟨#[0xb1]⟩ 1 none ∈ WL) (hd : decode cc pc = .ok (.invokespecial index, 3)) (hf : 1 ≤ R.frames) (hlo : 12 ≤ R.locals) (kk : VV p l e R s m args below meth c nL base D Q M k n (pc + 3) lv []) : VV p l e R s m args below meth c nL base D Q M k n pc lv ([.ref a]) := by
  intro H locs ls hW hS hL
  refine W.objInit C.1 C.2.1 C.2.2.2.1 (C.2.2.2.2.1 _ hl) (C.2.2.2.2.1 _ hi) (C.2.2.2.2.1 _ hc) rfl (by rw [C.2.2.1]; exact hL.1) rfl hd hf (by simpa [JFrame.monitorRoom] using hlo) ?_
  exact kk H locs ls hW hS hL
theorem V_mmax (C : Cx p l s m args meth c cc nL own base D ct sa) {x y : Int32} {index : Nat} (hl : Cond.methodLink own index Lib.Math.max.name ∈ WL) (hst : Cond.static Lib.Math.max.name ∈ WL) (hini : Cond.initialized "java/lang/Math" ∈ WL) (hc : Cond.code Lib.Math.max.name Lib.Math.max.code 2 (some .int) ∈ WL) (hf : 1 ≤ R.frames) (hlo : (st.map fun v => v.category).sum + 13 ≤ R.locals) (hk : k ≤ R.cells) (hs : n ≤ R.slots) (hd : decode cc pc = .ok (.invokestatic index, 3)) (kk : VV p l e R s m args below meth c nL base D Q M k n (pc + 3) lv (.int (if x < y then y else x) :: st)) : VV p l e R s m args below meth c nL base D Q M k n pc lv (.int y :: .int x :: st) := by
  intro H locs ls hW hS hL
  exact va_mmax C.1 C.2.1 (by rw [C.2.2.1]; exact hL.1.symm) C.2.2.2.1 (C.2.2.2.2.1 _ hl) (C.2.2.2.2.1 _ hst) (C.2.2.2.2.1 _ hini) (C.2.2.2.2.1 _ hc) hf hlo hk hs hd (kk H locs ls hW hS hL)
theorem V_mmin (C : Cx p l s m args meth c cc nL own base D ct sa) {x y : Int32} {index : Nat} (hl : Cond.methodLink own index Lib.Math.min.name ∈ WL) (hst : Cond.static Lib.Math.min.name ∈ WL) (hini : Cond.initialized "java/lang/Math" ∈ WL) (hc : Cond.code Lib.Math.min.name Lib.Math.min.code 2 (some .int) ∈ WL) (hf : 1 ≤ R.frames) (hlo : (st.map fun v => v.category).sum + 13 ≤ R.locals) (hk : k ≤ R.cells) (hs : n ≤ R.slots) (hd : decode cc pc = .ok (.invokestatic index, 3)) (kk : VV p l e R s m args below meth c nL base D Q M k n (pc + 3) lv (.int (if y < x then y else x) :: st)) : VV p l e R s m args below meth c nL base D Q M k n pc lv (.int y :: .int x :: st) := by
  intro H locs ls hW hS hL
  exact va_mmin C.1 C.2.1 (by rw [C.2.2.1]; exact hL.1.symm) C.2.2.2.1 (C.2.2.2.2.1 _ hl) (C.2.2.2.2.1 _ hst) (C.2.2.2.2.1 _ hini) (C.2.2.2.2.1 _ hc) hf hlo hk hs hd (kk H locs ls hW hS hL)
theorem V_copy (C : Cx p l s m args meth c cc nL own base D ct sa) {a b N0 N1 index : Nat} {f g : Nat → Int32} {sp dp z : Int32} (ha : M a = some (.inl (ct 0, N0, .inl f))) (hb : M b = some (.inl (ct 0, N1, .inl g))) (hl : Cond.methodLink own index arraycopyName ∈ WL) (hnat : Cond.native arraycopyName ∈ WL) (hst : Cond.static arraycopyName ∈ WL) (hini : Cond.initialized "java/lang/System" ∈ WL) (h1 : ¬ sp < 0) (h2 : ¬ dp < 0) (h3 : ¬ z < 0) (h4 : sp.toNatClampNeg + z.toNatClampNeg ≤ N0) (h5 : dp.toNatClampNeg + z.toNatClampNeg ≤ N1) (hf : 1 ≤ R.frames) (hlo : (st.map fun v => v.category).sum + (nativeFrameWords "java/lang/System" "arraycopy" 5 + 11) ≤ R.locals) (hd : decode cc pc = .ok (.invokestatic index, 3)) (kk : VV p l e R s m args below meth c nL base D Q (mput M b (.inl (ct 0, N1, .inl (va_cpy f g sp.toNatClampNeg dp.toNatClampNeg z.toNatClampNeg)))) k n (pc + 3) lv st) : VV p l e R s m args below meth c nL base D Q M k n pc lv (.int z :: .int dp :: .ref b :: .int sp :: .ref a :: st) := by
  intro H locs ls hW hS hL
  obtain ⟨L, f9, g1, g2, g3⟩ := id hW
  obtain ⟨q0, hq0⟩ := pl_at (g1 a _ ha)
  obtain ⟨q1, hq1⟩ := pl_at (g1 b _ hb)
  exact va_copyi C.1 C.2.1 (by rw [C.2.2.1]; exact hL.1.symm) C.2.2.2.1 (C.2.2.2.2.1 _ hl) (C.2.2.2.2.1 _ hnat) (C.2.2.2.2.1 _ hst) (C.2.2.2.2.1 _ hini) C.2.2.2.2.2.1.2.1 g2 g3 hS q0 q1 0 0 (ty := .int) hq0 hq1 rfl rfl rfl h1 h2 h3 h4 h5 (fun _ _ => rfl) hf hlo hd (fun H1 locs1 hP1 hD1 hS1 => kk H1 locs1 ls (Wd.set g1 g3 hb hq1 hP1 hD1) hS1 hL)
end
