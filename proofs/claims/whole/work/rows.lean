section
-- ===== PART A: goes FIRST, ahead of the names: the tables' words, and 'selects' of the private methods out of them =====
/-- a private method of a class that the tables say can be made, by its rows of tables_1 -/
def lw_okq (q : MethodName × Nat) : Prop := (q.1.cls ≠ "java/lang/invoke/MethodHandle" ∧ q.1.cls ≠ "java/lang/invoke/VarHandle") ∧ Cond.instantiable q.1.cls q.2 ∈ tables_1 ∧ Cond.privateMethod q.1 ∈ tables_1 ∧ Cond.instanceMethod q.1 ∈ tables_1
theorem lw_p0 : lw_okq (⟨"SaveRestore", "placeOfLiving", "(I)I"⟩, 10) := ⟨⟨by decide +kernel, by decide +kernel⟩, List.mem_of_getElem? (i := 16) (by decide +kernel), List.mem_of_getElem? (i := 97) (by decide +kernel), List.mem_of_getElem? (i := 98) (by decide +kernel)⟩
theorem lw_p1 : lw_okq (⟨"SaveRestore", "keptRefersToNewer", "(LSaveRestore$Save;)Z"⟩, 10) := ⟨⟨by decide +kernel, by decide +kernel⟩, List.mem_of_getElem? (i := 16) (by decide +kernel), List.mem_of_getElem? (i := 101) (by decide +kernel), List.mem_of_getElem? (i := 102) (by decide +kernel)⟩
theorem lw_p2 : lw_okq (⟨"SaveRestore", "referredTo", "(I)LSaveRestore$Thing;"⟩, 10) := ⟨⟨by decide +kernel, by decide +kernel⟩, List.mem_of_getElem? (i := 16) (by decide +kernel), List.mem_of_getElem? (i := 105) (by decide +kernel), List.mem_of_getElem? (i := 106) (by decide +kernel)⟩
theorem lw_p3 : lw_okq (⟨"SaveRestore", "find", "(I)LSaveRestore$Thing;"⟩, 10) := ⟨⟨by decide +kernel, by decide +kernel⟩, List.mem_of_getElem? (i := 16) (by decide +kernel), List.mem_of_getElem? (i := 109) (by decide +kernel), List.mem_of_getElem? (i := 110) (by decide +kernel)⟩
theorem lw_p4 : lw_okq (⟨"SaveRestore", "undoSince", "(LSaveRestore$Save;)V"⟩, 10) := ⟨⟨by decide +kernel, by decide +kernel⟩, List.mem_of_getElem? (i := 16) (by decide +kernel), List.mem_of_getElem? (i := 120) (by decide +kernel), List.mem_of_getElem? (i := 121) (by decide +kernel)⟩
theorem lw_p5 : lw_okq (⟨"SaveRestore", "dropLocalsNewerThan", "(LSaveRestore$Save;)V"⟩, 10) := ⟨⟨by decide +kernel, by decide +kernel⟩, List.mem_of_getElem? (i := 16) (by decide +kernel), List.mem_of_getElem? (i := 128) (by decide +kernel), List.mem_of_getElem? (i := 129) (by decide +kernel)⟩
theorem lw_p6 : lw_okq (⟨"SaveRestore", "pushedSinceLatestSave", "()I"⟩, 10) := ⟨⟨by decide +kernel, by decide +kernel⟩, List.mem_of_getElem? (i := 16) (by decide +kernel), List.mem_of_getElem? (i := 139) (by decide +kernel), List.mem_of_getElem? (i := 140) (by decide +kernel)⟩
theorem lw_p7 : lw_okq (⟨"java/lang/Throwable", "fillInStackTrace", "(I)Ljava/lang/Throwable;"⟩, 6) := ⟨⟨by decide +kernel, by decide +kernel⟩, List.mem_of_getElem? (i := 198) (by decide +kernel), List.mem_of_getElem? (i := 196) (by decide +kernel), List.mem_of_getElem? (i := 197) (by decide +kernel)⟩
theorem lw_p8 : lw_okq (⟨"SaveRestore", "existing", "(I)LSaveRestore$Thing;"⟩, 10) := ⟨⟨by decide +kernel, by decide +kernel⟩, List.mem_of_getElem? (i := 16) (by decide +kernel), List.mem_of_getElem? (i := 266) (by decide +kernel), List.mem_of_getElem? (i := 267) (by decide +kernel)⟩
theorem lw_p9 : lw_okq (⟨"SaveRestore", "checkValue", "(I)V"⟩, 10) := ⟨⟨by decide +kernel, by decide +kernel⟩, List.mem_of_getElem? (i := 16) (by decide +kernel), List.mem_of_getElem? (i := 286) (by decide +kernel), List.mem_of_getElem? (i := 287) (by decide +kernel)⟩
theorem lw_p10 : lw_okq (⟨"SaveRestore", "refersToLocal", "(I)Z"⟩, 10) := ⟨⟨by decide +kernel, by decide +kernel⟩, List.mem_of_getElem? (i := 16) (by decide +kernel), List.mem_of_getElem? (i := 310) (by decide +kernel), List.mem_of_getElem? (i := 311) (by decide +kernel)⟩
theorem lw_p11 : lw_okq (⟨"SaveRestore", "keepRow", "(LSaveRestore$Thing;I)V"⟩, 10) := ⟨⟨by decide +kernel, by decide +kernel⟩, List.mem_of_getElem? (i := 16) (by decide +kernel), List.mem_of_getElem? (i := 330) (by decide +kernel), List.mem_of_getElem? (i := 331) (by decide +kernel)⟩
theorem lw_p12 : lw_okq (⟨"SaveRestoreModel", "isObject", "(I)Z"⟩, 21) := ⟨⟨by decide +kernel, by decide +kernel⟩, List.mem_of_getElem? (i := 412) (by decide +kernel), List.mem_of_getElem? (i := 495) (by decide +kernel), List.mem_of_getElem? (i := 496) (by decide +kernel)⟩
theorem lw_p13 : lw_okq (⟨"SaveRestoreModel", "isValue", "(I)Z"⟩, 21) := ⟨⟨by decide +kernel, by decide +kernel⟩, List.mem_of_getElem? (i := 412) (by decide +kernel), List.mem_of_getElem? (i := 499) (by decide +kernel), List.mem_of_getElem? (i := 500) (by decide +kernel)⟩
theorem lw_p14 : lw_okq (⟨"SaveRestoreModel", "keep", "(I)V"⟩, 21) := ⟨⟨by decide +kernel, by decide +kernel⟩, List.mem_of_getElem? (i := 412) (by decide +kernel), List.mem_of_getElem? (i := 506) (by decide +kernel), List.mem_of_getElem? (i := 507) (by decide +kernel)⟩
theorem lw_p15 : lw_okq (⟨"SaveRestoreModel", "isLive", "(I)Z"⟩, 21) := ⟨⟨by decide +kernel, by decide +kernel⟩, List.mem_of_getElem? (i := 412) (by decide +kernel), List.mem_of_getElem? (i := 522) (by decide +kernel), List.mem_of_getElem? (i := 523) (by decide +kernel)⟩
def lw_privs_1 : List (MethodName × Nat) := [(⟨"SaveRestore", "placeOfLiving", "(I)I"⟩, 10), (⟨"SaveRestore", "keptRefersToNewer", "(LSaveRestore$Save;)Z"⟩, 10), (⟨"SaveRestore", "referredTo", "(I)LSaveRestore$Thing;"⟩, 10), (⟨"SaveRestore", "find", "(I)LSaveRestore$Thing;"⟩, 10), (⟨"SaveRestore", "undoSince", "(LSaveRestore$Save;)V"⟩, 10), (⟨"SaveRestore", "dropLocalsNewerThan", "(LSaveRestore$Save;)V"⟩, 10), (⟨"SaveRestore", "pushedSinceLatestSave", "()I"⟩, 10), (⟨"java/lang/Throwable", "fillInStackTrace", "(I)Ljava/lang/Throwable;"⟩, 6), (⟨"SaveRestore", "existing", "(I)LSaveRestore$Thing;"⟩, 10), (⟨"SaveRestore", "checkValue", "(I)V"⟩, 10), (⟨"SaveRestore", "refersToLocal", "(I)Z"⟩, 10), (⟨"SaveRestore", "keepRow", "(LSaveRestore$Thing;I)V"⟩, 10), (⟨"SaveRestoreModel", "isObject", "(I)Z"⟩, 21), (⟨"SaveRestoreModel", "isValue", "(I)Z"⟩, 21), (⟨"SaveRestoreModel", "keep", "(I)V"⟩, 21), (⟨"SaveRestoreModel", "isLive", "(I)Z"⟩, 21)]
theorem lw_r1 : ∀ q ∈ lw_privs_1, lw_okq q := List.forall_mem_cons.mpr ⟨lw_p0, List.forall_mem_cons.mpr ⟨lw_p1, List.forall_mem_cons.mpr ⟨lw_p2, List.forall_mem_cons.mpr ⟨lw_p3, List.forall_mem_cons.mpr ⟨lw_p4, List.forall_mem_cons.mpr ⟨lw_p5, List.forall_mem_cons.mpr ⟨lw_p6, List.forall_mem_cons.mpr ⟨lw_p7, List.forall_mem_cons.mpr ⟨lw_p8, List.forall_mem_cons.mpr ⟨lw_p9, List.forall_mem_cons.mpr ⟨lw_p10, List.forall_mem_cons.mpr ⟨lw_p11, List.forall_mem_cons.mpr ⟨lw_p12, List.forall_mem_cons.mpr ⟨lw_p13, List.forall_mem_cons.mpr ⟨lw_p14, List.forall_mem_cons.mpr ⟨lw_p15, fun _ h => absurd h List.not_mem_nil⟩⟩⟩⟩⟩⟩⟩⟩⟩⟩⟩⟩⟩⟩⟩⟩
theorem lw_p16 : lw_okq (⟨"SaveRestoreModel", "isNewer", "(II)Z"⟩, 21) := ⟨⟨by decide +kernel, by decide +kernel⟩, List.mem_of_getElem? (i := 412) (by decide +kernel), List.mem_of_getElem? (i := 526) (by decide +kernel), List.mem_of_getElem? (i := 527) (by decide +kernel)⟩
theorem lw_p17 : lw_okq (⟨"SaveRestoreModel", "ownStates", "()I"⟩, 21) := ⟨⟨by decide +kernel, by decide +kernel⟩, List.mem_of_getElem? (i := 412) (by decide +kernel), List.mem_of_getElem? (i := 545) (by decide +kernel), List.mem_of_getElem? (i := 546) (by decide +kernel)⟩
def lw_privs_2 : List (MethodName × Nat) := [(⟨"SaveRestoreModel", "isNewer", "(II)Z"⟩, 21), (⟨"SaveRestoreModel", "ownStates", "()I"⟩, 21)]
theorem lw_r2 : ∀ q ∈ lw_privs_2, lw_okq q := List.forall_mem_cons.mpr ⟨lw_p16, List.forall_mem_cons.mpr ⟨lw_p17, fun _ h => absurd h List.not_mem_nil⟩⟩
def lw_privs : List (MethodName × Nat) := lw_privs_1 ++ (lw_privs_2)
def lw_tbl : List Cond := k2_sels lw_privs ++ tables_1
theorem lw_privs_ok : ∀ q ∈ lw_privs, lw_okq q := by
  show ∀ q ∈ lw_privs_1 ++ (lw_privs_2), lw_okq q
  exact List.forall_mem_append.mpr ⟨lw_r1, lw_r2⟩
/-- the tables' word on arrays of arrays (the printed rows name it, the kit has it not) -/
def va_AOA (ty : FieldType) (U : State) : Prop := (Cond.arrayOver (.array ty)).before #[] U = true
theorem va_AOA.use {ty : FieldType} {A : Array Value} {U : State} (h : va_AOA ty U) : (Cond.arrayOver (.array ty)).before A U = true := h
/-! ===== BEGIN words of one list among another's, by their places ===== -/
theorem goodIn_r {big : List Cond} (ws : List Cond) (ps : List Nat) (hp : ws = ps.filterMap (fun i => big[i]?)) (h : ws.all goodWord = true) : GoodIn big ws := by
  intro w hw
  have h1 := List.all_eq_true.mp h w hw
  rw [hp] at hw
  obtain ⟨i, -, hi⟩ := List.mem_filterMap.mp hw
  have hm : w ∈ big := by first | exact List.mem_of_getElem? hi | exact List.getElem?_mem hi
  exact ⟨hm, good_of_word h1⟩
theorem goodIn_app {big a b : List Cond} (ha : GoodIn big a) (hb : GoodIn big b) : GoodIn big (a ++ b) := fun w h => (List.mem_append.mp h).elim (ha w) (hb w)
theorem goodIn_ca {big a b : List Cond} {c : Cond} (ha : GoodIn big (c :: a)) (hb : GoodIn big b) : GoodIn big (c :: (a ++ b)) := fun w h => (List.mem_cons.mp h).elim (fun e => ha w (List.mem_cons.mpr (Or.inl e))) (fun h => (List.mem_append.mp h).elim (fun h => ha w (List.mem_cons.mpr (Or.inr h))) (hb w))
theorem goodIn_sub {big ws : List Cond} (hm : ∀ w ∈ ws, w ∈ big) (h : ws.all goodWord = true) : GoodIn big ws := fun w hw => ⟨hm w hw, good_of_word (List.all_eq_true.mp h w hw)⟩
/-! ===== END ===== -/

/-! ===== BEGIN new T[n][m]: the outer array a place, the inner ones among the pooled ===== -/
/-- f, but v at every address of l -/
def vr_up {α : Type} (f : Nat → α) (l : List Nat) (v : α) : Nat → α := fun a => if a ∈ l then v else f a
theorem vr_up_in {α : Type} {f : Nat → α} {l : List Nat} {v : α} {a : Nat} (h : a ∈ l) : vr_up f l v a = v := if_pos h
theorem vr_up_ne {α : Type} {f : Nat → α} {l : List Nat} {v : α} {a : Nat} (h : a ∉ l) : vr_up f l v a = f a := if_neg h
theorem vr_rows {L l : List Nat} {f : Nat → va_E} {e : va_E} (h : ∀ a, a ∈ l → a ∉ L) : va_pl L f ++ l.map (fun a => (a, e)) = va_pl (L ++ l) (vr_up f l e) := by
  unfold va_pl
  rw [List.map_append]
  congr 1
  · apply List.map_congr_left
    intro a ha
    rw [vr_up_ne (fun q => h a q ha)]
  · apply List.map_congr_left
    intro a ha
    rw [vr_up_in ha]
theorem vr_lay {X rows : va_W} {x : Nat × va_E} {pl : va_W} {D : va_G} {cl : List vw_C} {H : Heap} (hP : va_P D cl (((X ++ pl) ++ [x]) ++ rows) H) : va_P D cl ((X ++ [x]) ++ (pl ++ rows)) H := by
  rw [List.append_assoc (X ++ pl)] at hP
  have h := va_P.swap hP
  rw [← List.append_assoc X] at h
  have h2 := va_P.swap h
  rw [List.append_assoc (X ++ [x])] at h2
  exact h2
theorem vr_layD {X rows : va_W} {x : Nat × va_E} {pl : va_W} {A : Nat → Prop} (hD : va_D A (((X ++ pl) ++ [x]) ++ rows)) : va_D A ((X ++ [x]) ++ (pl ++ rows)) := by
  rw [List.append_assoc (X ++ pl)] at hD
  have h := va_D.swap hD
  rw [← List.append_assoc X] at h
  have h2 := va_D.swap h
  rw [List.append_assoc (X ++ [x])] at h2
  exact h2
theorem vr_outer (c : ClassId) (N h0 : Nat) : ∀ i : Nat, Jvm.Free.Multi.outerC c N h0 i = arrV c N (fun j => va_rf (if j < i then some (h0 + 1 + j) else none))
  | 0 => by
    show ({ cls := c, slots := Array.replicate N .null, vm := .none } : Cell) = _
    rw [arrV_new]
    refine congrArg (arrV c N) (funext fun j => ?_)
    simp [va_rf]
  | i + 1 => by
    show (Jvm.Free.Multi.outerC c N h0 i).setSlot i (.ref (h0 + 1 + i)) = _
    rw [vr_outer c N h0 i, arrV_store]
    refine congrArg (arrV c N) (funext fun j => ?_)
    by_cases e : j = i
    · subst e
      simp [updV, va_rf]
    · by_cases h : j < i
      · simp [updV, e, h, Nat.lt_succ_of_lt h]
      · simp [updV, e, h, show ¬ j < i + 1 by omega]
section VGM
variable {p : Program} {l : Launch} {e : Env} {R : Room} {s : State} {m : MethodId} {args : Array Value} {below : List Frame} {meth : Method} {c : Code} {H : Heap} {locs : List Loc} {cells slots : Nat} {Q : State → Prop}
variable {cc : ByteArray} {pc : Nat} {ls : Array Slot} {rest : List Value} {D : va_G} {cl : List vw_C} {A : Nat → Prop} {a : Nat} {tys : List (ClassId × FieldType)} {ws : va_W} {H0 : Heap}
theorem va_mna {X : va_W} {L : List Nat} {f : Nat → va_E} {cc : ByteArray} (hexec : p.tables.exec = Jvm.exec) (hb : c.code = cc) {own : String} {index : Nat} {ty : FieldType} {cy : ClassId} (hown : s.vm.findClass own = some m.cls) (hclink : (Cond.classLink own index ("[" ++ (FieldType.array ty).toString)).before args s = true) (hover : va_AOA ty s) (harr : (Cond.arrayClass ty).before args s = true) (hcy : s.vm.findClass (FieldType.array ty).toString = some cy)
    (hK : va_K D cl tys s) (hP : va_P D cl (X ++ va_pl L f) H) (hD : va_D A (X ++ va_pl L f)) (hS : va_S A H0 H locs) (hA : ∀ q, H0.size ≤ q → A q) {n k : Int32} {N' K' : Nat} {z : vp_A} (hn : ¬ n < 0) (hk : ¬ k < 0) (hN : n.toNatClampNeg = N') (hM : k.toNatClampNeg = K')
    (hb1 : N' * 4 ≤ 536870912) (hb2 : K' * componentBytes ty ≤ 536870912) (hb3 : K' ≤ 536870912) (hdf : fits ty (defaultValue ty) = true) (hdd : (defaultValue ty).isDefault = true) (hcells : cells + (1 + N') ≤ R.cells) (hslots : slots + (N' + N' * K') ≤ R.slots) (hz : ∀ c : ClassId, Jvm.Free.Multi.innerC c K' (defaultValue ty) = vp_cell c z) (hdg : decode cc pc = .ok (.multianewarray index 2, 4))
    (kk : ∀ (q : Nat) (r : Nat → Nat) (cA : ClassId) (H1 : Heap), (∀ i j : Nat, i < N' → j < N' → r i = r j → i = j) → (∀ i : Nat, i < N' → r i ∉ L) → va_K D cl (tys ++ [(cA, .array ty)]) s →
      va_P D cl ((X ++ [(q, .inl (cA, N', .inr (.inr (.inr (.inr (fun i => if i < N' then some (r i) else none))))))]) ++ va_pl (L ++ (List.range N').map r) (vr_up f ((List.range N').map r) (.inl (cy, z)))) H1 → va_D A ((X ++ [(q, .inl (cA, N', .inr (.inr (.inr (.inr (fun i => if i < N' then some (r i) else none))))))]) ++ va_pl (L ++ (List.range N').map r) (vr_up f ((List.range N').map r) (.inl (cy, z)))) → va_S A H0 H1 locs →
      W p l e R s m args below meth c H1 locs (cells + 1 + N') (slots + N' + N' * K') Q (F0 m (pc + 4) ls (.ref q :: rest))) : W p l e R s m args below meth c H locs cells slots Q (F0 m pc ls (.int k :: .int n :: rest)) := by
  subst hN
  subst hM
  intro T hT Xs
  obtain ⟨vm₁, cA, comp, -, fA, fC, hO, -, X', step⟩ := Xs.multianewarray2F hexec hown hclink (va_AOA.use hover) harr (g := F0 m pc ls (.int k :: .int n :: rest)) rfl (by rw [hb]; exact hdg) rfl hn hk hb1 hb2 hb3 hdf hdd hcells hslots
  have ec : some cy = some comp := hcy.symm.trans fC
  cases ec
  generalize hF : Jvm.Free.Multi.fill (T.setVm vm₁) cA cy n.toNatClampNeg k.toNatClampNeg (defaultValue ty) n.toNatClampNeg = F at X' step
  have hTh : (T.setVm vm₁).heap = H := hT
  obtain ⟨f1, f2, -, -⟩ := Jvm.Free.Multi.fill_facts (T.setVm vm₁) cA cy n.toNatClampNeg k.toNatClampNeg (defaultValue ty) n.toNatClampNeg
  rw [hF, hTh] at f1 f2
  have hold : ∀ x : Nat, x < H.size → F.heap[x]? = H[x]? := fun x hx => by
    have := Jvm.Free.Multi.fill_old (T.setVm vm₁) cA cy n.toNatClampNeg k.toNatClampNeg (defaultValue ty) (a := x) (by rw [hTh]; exact hx) n.toNatClampNeg
    rw [hF, hTh] at this
    exact this
  have hrow : ∀ j : Nat, j < n.toNatClampNeg → F.heap[H.size + 1 + j]? = some (vp_cell cy z) := fun j hj => by
    have := Jvm.Free.Multi.fill_inner (T.setVm vm₁) cA cy n.toNatClampNeg k.toNatClampNeg (defaultValue ty) n.toNatClampNeg j hj
    rw [hF, hTh, hz] at this
    exact this
  have hout : Jvm.Free.Multi.outerC cA n.toNatClampNeg H.size n.toNatClampNeg = vp_cell cA (n.toNatClampNeg, .inr (.inr (.inr (.inr (fun i => if i < n.toNatClampNeg then some (H.size + 1 + i) else none))))) := by
    rw [vp_cell_q]
    exact vr_outer cA n.toNatClampNeg H.size n.toNatClampNeg
  rw [hout] at f2
  have hlt : ∀ a, a ∈ L → a < H.size := fun a ha => by
    obtain ⟨k9, hk9⟩ := va_pl_get (X := X) (f := f) ha
    exact (hP k9 _ hk9).lt
  have hnl : ∀ i : Nat, i < n.toNatClampNeg → H.size + 1 + i ∉ L := fun i _ h => by
    have := hlt _ h
    omega
  have hnm : ∀ a, a ∈ (List.range n.toNatClampNeg).map (fun i => H.size + 1 + i) → a ∉ L := fun a ha h => by
    obtain ⟨i, -, rfl⟩ := List.mem_map.mp ha
    have := hlt _ h
    omega
  have hP0 : va_P D cl (X ++ va_pl L f) F.heap := hP.kept (fun k9 x hx => hold x.1 ((hP k9 x hx).lt))
  have hP1 : va_P D cl ((X ++ va_pl L f) ++ [(H.size, .inl (cA, n.toNatClampNeg, .inr (.inr (.inr (.inr (fun i => if i < n.toNatClampNeg then some (H.size + 1 + i) else none))))))]) F.heap := hP0.app (fun k9 x hx => by
    have h0 : k9 < 1 := (List.getElem?_eq_some_iff.mp hx).1
    rw [show k9 = 0 by omega] at hx
    cases hx
    exact f2)
  have hP2 : va_P D cl (((X ++ va_pl L f) ++ [(H.size, .inl (cA, n.toNatClampNeg, .inr (.inr (.inr (.inr (fun i => if i < n.toNatClampNeg then some (H.size + 1 + i) else none))))))]) ++ ((List.range n.toNatClampNeg).map (fun i => H.size + 1 + i)).map (fun a => (a, .inl (cy, z)))) F.heap := hP1.app (fun k9 x hx => by
    obtain ⟨a, ha, rfl⟩ := List.mem_map.mp (List.mem_of_getElem? hx)
    obtain ⟨i, hi, rfl⟩ := List.mem_map.mp ha
    exact hrow i (List.mem_range.mp hi))
  have hD2 : va_D A (((X ++ va_pl L f) ++ [(H.size, .inl (cA, n.toNatClampNeg, .inr (.inr (.inr (.inr (fun i => if i < n.toNatClampNeg then some (H.size + 1 + i) else none))))))]) ++ ((List.range n.toNatClampNeg).map (fun i => H.size + 1 + i)).map (fun a => (a, .inl (cy, z)))) := by
    have hD1 := hD.push (e := .inl (cA, n.toNatClampNeg, .inr (.inr (.inr (.inr (fun i => if i < n.toNatClampNeg then some (H.size + 1 + i) else none)))))) hP rfl (hA _ hS.1)
    generalize hW1 : (X ++ va_pl L f) ++ [(H.size, .inl (cA, n.toNatClampNeg, .inr (.inr (.inr (.inr (fun i => if i < n.toNatClampNeg then some (H.size + 1 + i) else none))))))] = W1 at hD1 hP1 ⊢
    have hle : ∀ (k9 : Nat) (x : Nat × va_E), W1[k9]? = some x → x.1 ≤ H.size := fun k9 x hx => by
      rw [← hW1] at hx
      by_cases hl : k9 < (X ++ va_pl L f).length
      · rw [List.getElem?_append_left hl] at hx
        exact Nat.le_of_lt ((hP k9 x hx).lt)
      · rw [List.getElem?_append_right (by omega)] at hx
        have h0 : k9 - (X ++ va_pl L f).length < 1 := (List.getElem?_eq_some_iff.mp hx).1
        rw [show k9 - (X ++ va_pl L f).length = 0 by omega] at hx
        cases hx
        exact Nat.le_refl _
    have hr : ∀ (k9 : Nat) (x : Nat × va_E), (((List.range n.toNatClampNeg).map (fun i => H.size + 1 + i)).map (fun a => ((a, .inl (cy, z)) : Nat × va_E)))[k9]? = some x → x.1 = H.size + 1 + k9 := fun k9 x hx => by
      rw [List.getElem?_map, List.getElem?_map] at hx
      by_cases h9 : k9 < n.toNatClampNeg
      · rw [List.getElem?_range h9] at hx
        cases hx
        rfl
      · have hn0 : (List.range n.toNatClampNeg)[k9]? = none := List.getElem?_eq_none (by rw [List.length_range]; omega)
        rw [hn0] at hx
        cases hx
    refine ⟨fun i j x y hi hj hxy => ?_, fun k9 x hx => ?_⟩
    · by_cases h1 : i < W1.length <;> by_cases h2 : j < W1.length
      · rw [List.getElem?_append_left h1] at hi
        rw [List.getElem?_append_left h2] at hj
        exact hD1.1 i j x y hi hj hxy
      · rw [List.getElem?_append_left h1] at hi
        rw [List.getElem?_append_right (by omega)] at hj
        have := hle _ _ hi
        have := hr _ _ hj
        omega
      · rw [List.getElem?_append_right (by omega)] at hi
        rw [List.getElem?_append_left h2] at hj
        have := hle _ _ hj
        have := hr _ _ hi
        omega
      · rw [List.getElem?_append_right (by omega)] at hi hj
        have := hr _ _ hi
        have := hr _ _ hj
        omega
    · by_cases h1 : k9 < W1.length
      · rw [List.getElem?_append_left h1] at hx
        exact hD1.2 k9 x hx
      · rw [List.getElem?_append_right (by omega)] at hx
        have := hr _ _ hx
        exact hA _ (by have := hS.1; omega)
  have hAr : ArrOfT s cA (.array ty) := fun N9 z9 => by
    obtain ⟨-, k9, hk9, cm9, hkk9⟩ := (hO 0 0 0).1
    exact ⟨(fun q hq => by cases hq), k9, hk9, cm9, hkk9⟩
  have hK2 : va_K D cl (tys ++ [(cA, .array ty)]) s := ⟨hK.1, fun k9 x hx => by
    by_cases hl : k9 < tys.length
    · rw [List.getElem?_append_left hl] at hx
      exact hK.2 k9 x hx
    · rw [List.getElem?_append_right (by omega)] at hx
      have h0 : k9 - tys.length < 1 := (List.getElem?_eq_some_iff.mp hx).1
      rw [show k9 - tys.length = 0 by omega] at hx
      cases hx
      exact ⟨hAr, fA⟩⟩
  obtain ⟨t, a1, b1⟩ := kk H.size (fun i => H.size + 1 + i) cA F.heap (fun i j _ _ h => by have h9 : H.size + 1 + i = H.size + 1 + j := h; omega) hnl hK2 (by rw [← vr_rows hnm]; exact vr_lay hP2) (by rw [← vr_rows hnm]; exact vr_layD hD2) ⟨by rw [f1]; have := hS.1; omega, fun x h1 h2 => (hold x (Nat.lt_of_lt_of_le h1 hS.1)).trans (hS.2.1 x h1 h2), hS.2.2⟩ F rfl X'
  refine ⟨t, step t ?_, b1⟩
  have e : T.heap.size = H.size := by rw [hT]
  rw [e]
  exact a1
end VGM
/-! ===== END ===== -/

/-! ===== BEGIN exceptions that leave a method, and their catching by the caller (launches without stack traces) ===== -/
section VXA
/-! The laws vx_back, vx_callV, vx_callS, vx_callSW, vx_throw0, vx_throwS follow proofs of the library, with one case more: JvmDerived/Free/Laws.lean (Back.of_free), Shelf42/LK1.lean (callV, callS), Shelf/KitTraced.lean (throwNew0V, throwNewS). -/
/-- where a method has thrown q: the class by its name, the cell, what was written, the world -/
def vx_T (XC : String → State → State → Prop) (st : State) (q : Addr) (t : State) (mc ms : Nat) (free : Addr → Prop) : Prop :=
  ∃ (E : String) (ce : Cell) (L : List Loc), XC E st t ∧ t.heap[q]? = some ce ∧ ce.vm = .none ∧ st.vm.findClass E = some ce.cls ∧ st.WarmedH t.vm ∧ st.sameButNew ({ t with vm := st.vm } : State) L mc ms ∧ ∀ z ∈ L, free z.base
def vx_Q (Qc : Array Value → State → Outcome → State → Prop) (XC : String → State → State → Prop) (mc ms : Nat) (free : Addr → Prop) : Array Value → State → Outcome → State → Prop := fun a st o t =>
  (Qc a st o t ∧ ∃ L, FrameEnd st o t L mc ms ∧ ∀ q ∈ L, free q.base) ∨ ∃ q, o = .threw q ∧ vx_T XC st q t mc ms free
/-- a callee that returns or throws -/
def vx_Met (l : Launch) (y : MethodName) (ws : List Cond) (rm : Room) (Pc : Array Value → State → Prop) (Qc : Array Value → State → Outcome → State → Prop) (XC : String → State → State → Prop) (mc ms : Nat) (free : Addr → Prop) : Prop :=
  MetFree l y (headSpec ws rm) Pc (fun _ _ _ _ _ => True) (vx_Q Qc XC mc ms free)
def vx_Post (XC : String → State → State → Prop) (mc ms : Nat) (free : Addr → Prop) : Pt → Array Value → Addr → Pt → Prop := fun A a q B =>
  ∃ (g : JFrame) (mk : MethodId) (t : State) (L : List Loc) (E : String) (ce : Cell), B.U.heap = t.heap ∧ B.U.vm = t.vm ∧ XC E (A.U.calling g mk a) t ∧ t.heap[q]? = some ce ∧ ce.vm = .none ∧ A.U.vm.findClass E = some ce.cls ∧ B.locs = A.locs ++ L ∧ (∀ z ∈ L, free z.base) ∧ B.cells = A.cells + mc ∧ B.slots = A.slots + ms
def vx_Back (l : Launch) (R : Room) (p : Program) (e : Env) (below : List Frame) (s : State) (sargs : Array Value) (y : MethodName) (len W9 : Nat)
    (Pre : Pt → Array Value → Prop) (Post : Pt → Array Value → Option Value → Pt → Prop) (PostX : Pt → Array Value → Addr → Pt → Prop) : Prop :=
  ∀ (m : MethodId) (meth : Method) (c : Code) (A : Pt) (g : JFrame) (ig : Instr) (mk : MethodId) (a : Array Value),
    Stand p l e R s m sargs below meth c A.U A.locs A.cells A.slots → g.method = m → g.locals.size = c.maxLocals → decode c.code g.pc = .ok (ig, len) →
    2 * g.monitorRoom + (g.stack.map fun v => v.category).sum ≤ W9 → A.U.methodNamed? y = some mk → Pre A a →
    (∃ (v : Option Value) (B : Pt), Stand p l e R s m sargs below meth c B.U B.locs B.cells B.slots ∧ Post A a v B ∧
      Steps p.tables e below (doInvoke e (A.U.setTop g) [] mk a).1 (B.U.setTop { g with pc := g.pc + len, stack := v.toList ++ g.stack })) ∨
    (∃ (q : Addr) (B : Pt), Stand p l e R s m sargs below meth c B.U B.locs B.cells B.slots ∧ PostX A a q B ∧
      Steps p.tables e below (doInvoke e (A.U.setTop g) [] mk a).1 ((B.U.setTop g).pushFrame (.throwing q)))
section Payer
variable {l : Launch} {R : Room} {p : Program} {e : Env} {below : List Frame} {s : State} {sargs : Array Value} {y : MethodName} {len W9 : Nat}
theorem vx_back {ws : List Cond} {rm : Room} {Pc : Array Value → State → Prop} {Qc : Array Value → State → Outcome → State → Prop} {XC : String → State → State → Prop} {mc ms : Nat} {free : Addr → Prop} {bytes : ByteArray} {maxL : Nat} {ret : Option FieldType}
    (hM : vx_Met l y ws rm Pc Qc XC mc ms free) (hblind : FrameBlind Pc) (hrc : rm.cells = mc) (hrs : rm.slots = ms)
    (hframes : rm.frames + 1 ≤ R.frames) (hlocals : W9 + (maxL + 11) + rm.locals ≤ R.locals)
    (hws : ∀ w ∈ ws, ∀ a' U, s.WarmedH U.vm → w.before a' U = true) (hcode : Cond.code y bytes maxL ret ∈ ws) (hinit : ∀ a' U, s.WarmedH U.vm → (Cond.initialized y.cls).before a' U = true) :
    vx_Back l R p e below s sargs y len W9 (PreOf R mc ms Pc) (PostOf Qc mc ms free) (vx_Post XC mc ms free) := by
  intro m meth c A g ig mk a X hg hsize hdg hW hn hp
  have h1 : (headSpec ws rm).pre.before a A.U = true := atoms_intro fun w hw => hws w hw _ _ X.warmed
  have h2 : (Cond.code y bytes maxL ret).before a A.U = true := hws _ hcode _ _ X.warmed
  have h3 : (Cond.initialized y.cls).before a A.U = true := hinit _ _ X.warmed
  have h4 : A.cells + (headSpec ws rm).room.cells ≤ R.cells := by rw [show (headSpec ws rm).room.cells = mc from hrc]; exact hp.1
  have h5 : A.slots + (headSpec ws rm).room.slots ≤ R.slots := by rw [show (headSpec ws rm).room.slots = ms from hrs]; exact hp.2.1
  have hPc : Pc a (A.U.calling g mk a) := hblind _ _ _ _ hp.2.2
  obtain ⟨U, Ls, c0, s0⟩ := A
  dsimp only [Pt.U, Pt.locs, Pt.cells, Pt.slots] at h1 h2 h3 h4 h5 X hn hPc ⊢
  obtain ⟨methY, cY, hmY, hcY, -, hlY, -, -, -, -⟩ := Cond.code_spec hn h2
  obtain ⟨kY, hkY, -⟩ := className_of_methodNamed hn
  have hinitY : kY.init = .initialized := Cond.initialized_spec (findClass_of_methodNamed hn) hkY h3
  have h : At U g.method c below := by rw [hg]; exact X.here
  have hlocals9 : W9 + (maxL + 11) + (headSpec ws rm).room.locals ≤ R.locals := hlocals
  have happ : (headSpec ws rm).appliesLoose y e.platform (U.calling g mk a) = true :=
    Spec.appliesLoose_calling (g := g) h hdg hn hkY hinitY
      (X.room_calling (g := g) (R' := (headSpec ws rm).room) hsize hmY hcY hframes (by rw [hlY]; omega) h4 h5) h1
  obtain ⟨mid, hmid⟩ := h.above
  have hfr : (U.setTop g).frames = (.java g :: mid) ++ below := by rw [State.frames_setTop' g h.top, hmid]; rfl
  obtain ⟨o, s₂, hsteps, -, hend, hq⟩ := Steps.callFree hM p X.admits X.cas X.clock (acts := []) hfr happ hPc trivial
  have hq' : vx_Q Qc XC mc ms free a (U.calling g mk a) o s₂ := hq
  rw [State.frames_setTop' g h.top] at hend
  obtain ⟨g₀, hg0⟩ := Option.isSome_iff_exists.mp h.top
  obtain ⟨r, hr⟩ := State.topJava?_eq_some.mp hg0
  have hr' : (({ U with heap := s₂.heap, slotsUsed := s₂.slotsUsed } : State).setVm s₂.vm).frames = .java g₀ :: r := hr
  rcases hq' with ⟨hqc, L, hfe, hL⟩ | ⟨q, rfl, E, ce, L, hx, hce, hcv, hcl, hW₂, hsm, hL⟩
  · obtain ⟨⟨v, rfl⟩, hW₂, e2, q2, q3, q4, q5, q6⟩ := id hfe
    have e3 : s₂ = ({ (U.calling g mk a).setFrames s₂.frames with heap := s₂.heap, slotsUsed := s₂.slotsUsed } : State).setVm s₂.vm := by
      have : s₂ = ({ s₂ with vm := (U.calling g mk a).vm } : State).setVm s₂.vm := rfl
      rw [e2] at this
      exact this
    obtain ⟨c₂, i₂, len₂, hc₂, hd₂, hf₂⟩ := hend
    have hW' : U.WarmedH s₂.vm := hW₂
    have hcc : c₂ = c := by
      have h1 : s₂.code? g.method = U.code? g.method := by
        rw [State.code?_eq, State.code?_eq, hW'.alike.method?]
      exact Option.some.inj (hc₂.symm.trans (h1.trans h.code))
    subst hcc
    have hlen : len₂ = len := by rw [hdg] at hd₂; cases hd₂; rfl
    subst hlen
    have hs₂ : s₂ = (({ U with heap := s₂.heap, slotsUsed := s₂.slotsUsed } : State).setVm s₂.vm).setTop { g with pc := g.pc + len₂, stack := v.toList ++ g.stack } := by
      refine e3.trans ?_
      rw [hf₂, State.calling_eq h.top, State.setFrames_setFrames, State.setTop_of_frames _ hr', hr]
      rfl
    have hsame : U.sameButNew ({ U with heap := s₂.heap, slotsUsed := s₂.slotsUsed } : State) L mc ms := by
      refine ⟨?_, q2, q3, q4, q5, q6⟩
      obtain ⟨t, ht, -⟩ := State.frames_cons hr
      show ({ U with heap := s₂.heap, slotsUsed := s₂.slotsUsed } : State) = { U.setFrames U.frames with heap := s₂.heap, slotsUsed := s₂.slotsUsed }
      rw [State.setFrames_self ht]
    subst hg
    refine Or.inl ⟨v, ⟨(({ U with heap := s₂.heap, slotsUsed := s₂.slotsUsed } : State).setVm s₂.vm), Ls ++ L, c0 + mc, s0 + ms⟩,
      ⟨X.admits, X.cas, X.clock, X.frames, X.room, X.hears, X.method, X.code, (X.here.setHeapUsed s₂.heap s₂.slotsUsed).setVm hW'.alike, X.tail, State.WarmedH.trans X.warmed hW', X.limits, X.bytes, X.same.trans (hsame.setVm s.vm)⟩,
      ⟨g, mk, s₂, L, rfl, rfl, hqc, rfl, hL, rfl, rfl⟩, ?_⟩
    show Steps p.tables e below _ ((({ U with heap := s₂.heap, slotsUsed := s₂.slotsUsed } : State).setVm s₂.vm).setTop { g with pc := g.pc + len₂, stack := v.toList ++ g.stack })
    rw [← hs₂]
    exact hsteps
  · obtain ⟨e2, q2, q3, q4, q5, q6⟩ := id hsm
    have e3 : s₂ = ({ (U.calling g mk a).setFrames s₂.frames with heap := s₂.heap, slotsUsed := s₂.slotsUsed } : State).setVm s₂.vm := by
      have : s₂ = ({ s₂ with vm := (U.calling g mk a).vm } : State).setVm s₂.vm := rfl
      rw [e2] at this
      exact this
    have hf₂ : s₂.frames = .throwing q :: .java g :: U.frames.tail := hend
    have hW' : U.WarmedH s₂.vm := hW₂
    have hs₂ : s₂ = ((({ U with heap := s₂.heap, slotsUsed := s₂.slotsUsed } : State).setVm s₂.vm).setTop g).pushFrame (.throwing q) := by
      refine e3.trans ?_
      rw [hf₂, State.calling_eq h.top, State.setFrames_setFrames, State.pushFrame, State.frames_setTop _ hr', State.setTop_of_frames _ hr', State.setFrames_setFrames, hr]
      rfl
    have hsame : U.sameButNew ({ U with heap := s₂.heap, slotsUsed := s₂.slotsUsed } : State) L mc ms := by
      refine ⟨?_, q2, q3, q4, q5, q6⟩
      obtain ⟨t, ht, -⟩ := State.frames_cons hr
      show ({ U with heap := s₂.heap, slotsUsed := s₂.slotsUsed } : State) = { U.setFrames U.frames with heap := s₂.heap, slotsUsed := s₂.slotsUsed }
      rw [State.setFrames_self ht]
    subst hg
    refine Or.inr ⟨q, ⟨(({ U with heap := s₂.heap, slotsUsed := s₂.slotsUsed } : State).setVm s₂.vm), Ls ++ L, c0 + mc, s0 + ms⟩,
      ⟨X.admits, X.cas, X.clock, X.frames, X.room, X.hears, X.method, X.code, (X.here.setHeapUsed s₂.heap s₂.slotsUsed).setVm hW'.alike, X.tail, State.WarmedH.trans X.warmed hW', X.limits, X.bytes, X.same.trans (hsame.setVm s.vm)⟩,
      ⟨g, mk, s₂, L, E, ce, rfl, rfl, hx, hce, hcv, hcl, rfl, hL, rfl, rfl⟩, ?_⟩
    show Steps p.tables e below _ (((({ U with heap := s₂.heap, slotsUsed := s₂.slotsUsed } : State).setVm s₂.vm).setTop g).pushFrame (.throwing q))
    rw [← hs₂]
    exact hsteps
end Payer
section Calls
variable {p : Program} {l : Launch} {e : Env} {R : Room} {s : State} {m : MethodId} {args : Array Value} {below : List Frame} {meth : Method} {c : Code} {T : State} {locs : List Loc} {cells slots : Nat}
theorem vx_callV (X : Stand p l e R s m args below meth c T locs cells slots) (hexec : p.tables.exec = Jvm.exec) {own C : String} {index : Nat} {y : MethodName} {bytes : ByteArray} {maxL : Nat} {ret : Option FieldType}
    (hown : s.vm.findClass own = some m.cls) (hlink : (Cond.methodLink own index y).before args s = true) (hinst : (Cond.instanceMethod y).before args s = true) (hsel : (Cond.selects C y y).before args s = true)
    (hcode : (Cond.code y bytes maxL ret).before args s = true) (hy : y.cls ≠ "java/lang/invoke/MethodHandle" ∧ y.cls ≠ "java/lang/invoke/VarHandle")
    {W9 : Nat} {Pre : Pt → Array Value → Prop} {Post : Pt → Array Value → Option Value → Pt → Prop} {PostX : Pt → Array Value → Addr → Pt → Prop} (hK : vx_Back l R p e below s args y 3 W9 Pre Post PostX)
    {b : Addr} {cellB : Cell} (hcell : T.heap[b]? = some cellB) (hobj : cellB.vm.isStatics = false) (hcls : s.vm.findClass C = some cellB.cls)
    {g : JFrame} (hg : g.method = m) (hsize : g.locals.size = c.maxLocals) {argsL rest : List Value} (hlen : ∀ sig, parseMethodDescriptor y.desc = some sig → argsL.length = sig.parameters.length)
    (hstack : g.stack = argsL.reverse ++ .ref b :: rest) (hW : 2 * g.monitorRoom + (rest.map fun v => v.category).sum ≤ W9) (hdg : decode c.code g.pc = .ok (.invokevirtual index, 3))
    (hpre : ∀ vm₁, s.WarmedH vm₁ → Pre ⟨T.setVm vm₁, locs, cells, slots⟩ (Value.ref b :: argsL).toArray) :
    (∃ (v : Option Value) (vm₁ : Vm) (B : Pt), s.WarmedH vm₁ ∧ Stand p l e R s m args below meth c B.U B.locs B.cells B.slots ∧ Post ⟨T.setVm vm₁, locs, cells, slots⟩ (Value.ref b :: argsL).toArray v B ∧
      ∀ target, Steps p.tables e below (B.U.setTop { g with pc := g.pc + 3, stack := v.toList ++ rest }) target → Steps p.tables e below (T.setTop g) target) ∨
    (∃ (q : Addr) (vm₁ : Vm) (B : Pt), s.WarmedH vm₁ ∧ Stand p l e R s m args below meth c B.U B.locs B.cells B.slots ∧ PostX ⟨T.setVm vm₁, locs, cells, slots⟩ (Value.ref b :: argsL).toArray q B ∧
      Steps p.tables e below (T.setTop g) ((B.U.setTop { g with stack := rest }).pushFrame (.throwing q))) := by
  obtain ⟨mk, methM, hnamed, hmethM, hstM, habM⟩ := Cond.instanceMethod_spec hinst
  obtain ⟨methM', cM, hmethM', -, -, -, -, -, -, hsigM⟩ := Cond.code_spec hnamed hcode
  cases hmethM.symm.trans hmethM'
  obtain ⟨c2, r2, m2, q1, q2, q3, q4, kP, hkP, hkPi⟩ := Cond.selects_spec hsel
  cases hcls.symm.trans q1
  cases (State.methodFound?_of_named hnamed hy).symm.trans q2
  cases hnamed.symm.trans q3
  have hselP : selectMethod e.platform s.vm cellB.cls mk = .method mk := by rw [Launch.admits_selectMethod X.admits]; exact q4
  obtain ⟨vm₁, X₁, hstep₁⟩ := X.invokevirtual hexec hown hlink hnamed hmethM hstM hkP hkPi hy (a := b) (cell := cellB) hcell
    (fun z h => by rw [h] at hobj; cases hobj) hselP hmethM habM hkP hkPi (g := g) hg (argsL := argsL) (rest := rest) (hlen _ hsigM) hstack hdg
  rcases hK m meth c ⟨T.setVm vm₁, locs, cells, slots⟩ { g with stack := rest } (.invokevirtual index) mk (Value.ref b :: argsL).toArray X₁ hg hsize hdg hW (X₁.named hnamed) (hpre vm₁ X₁.warmed) with ⟨v, B, X', hpost, hsteps⟩ | ⟨q, B, X', hpost, hsteps⟩
  · exact Or.inl ⟨v, vm₁, B, X₁.warmed, X', hpost, fun target h => hstep₁ _ fun acts => by rw [doInvoke_state]; exact hsteps.trans h⟩
  · exact Or.inr ⟨q, vm₁, B, X₁.warmed, X', hpost, hstep₁ _ fun acts => by rw [doInvoke_state]; exact hsteps⟩
theorem vx_callS (X : Stand p l e R s m args below meth c T locs cells slots) (hexec : p.tables.exec = Jvm.exec) {own : String} {index : Nat} {y : MethodName} {bytes : ByteArray} {maxL : Nat} {ret : Option FieldType}
    (hown : s.vm.findClass own = some m.cls) (hlink : (Cond.methodLink own index y).before args s = true) (hstat : (Cond.static y).before args s = true) (hinit : (Cond.initialized y.cls).before args s = true)
    (hcode : (Cond.code y bytes maxL ret).before args s = true) (hy : y.cls ≠ "java/lang/invoke/MethodHandle" ∧ y.cls ≠ "java/lang/invoke/VarHandle")
    {W9 : Nat} {Pre : Pt → Array Value → Prop} {Post : Pt → Array Value → Option Value → Pt → Prop} {PostX : Pt → Array Value → Addr → Pt → Prop} (hK : vx_Back l R p e below s args y 3 W9 Pre Post PostX)
    {g : JFrame} (hg : g.method = m) (hsize : g.locals.size = c.maxLocals) {argsL rest : List Value} (hlen : ∀ sig, parseMethodDescriptor y.desc = some sig → argsL.length = sig.parameters.length)
    (hstack : g.stack = argsL.reverse ++ rest) (hW : 2 * g.monitorRoom + (rest.map fun v => v.category).sum ≤ W9) (hdg : decode c.code g.pc = .ok (.invokestatic index, 3))
    (hpre : ∀ vm₁, s.WarmedH vm₁ → Pre ⟨T.setVm vm₁, locs, cells, slots⟩ argsL.toArray) :
    (∃ (v : Option Value) (vm₁ : Vm) (B : Pt), s.WarmedH vm₁ ∧ Stand p l e R s m args below meth c B.U B.locs B.cells B.slots ∧ Post ⟨T.setVm vm₁, locs, cells, slots⟩ argsL.toArray v B ∧
      ∀ target, Steps p.tables e below (B.U.setTop { g with pc := g.pc + 3, stack := v.toList ++ rest }) target → Steps p.tables e below (T.setTop g) target) ∨
    (∃ (q : Addr) (vm₁ : Vm) (B : Pt), s.WarmedH vm₁ ∧ Stand p l e R s m args below meth c B.U B.locs B.cells B.slots ∧ PostX ⟨T.setVm vm₁, locs, cells, slots⟩ argsL.toArray q B ∧
      Steps p.tables e below (T.setTop g) ((B.U.setTop { g with stack := rest }).pushFrame (.throwing q))) := by
  obtain ⟨mk, hnamed⟩ := Cond.code_named hcode
  obtain ⟨methM, cM, hmethM, -, -, -, -, -, -, hsigM⟩ := Cond.code_spec hnamed hcode
  have hstatic : methM.isStatic = true := Cond.static_spec hnamed hmethM hstat
  obtain ⟨kP, hkP, -⟩ := className_of_methodNamed hnamed
  have hinitP : kP.init = .initialized := Cond.initialized_spec (findClass_of_methodNamed hnamed) hkP hinit
  obtain ⟨vm₁, X₁, hstep₁⟩ := X.invokestatic hexec hown hlink hnamed hmethM hstatic hkP hinitP hy (g := g) hg (argsL := argsL) (rest := rest) (hlen _ hsigM) hstack hdg
  rcases hK m meth c ⟨T.setVm vm₁, locs, cells, slots⟩ { g with stack := rest } (.invokestatic index) mk argsL.toArray X₁ hg hsize hdg hW (X₁.named hnamed) (hpre vm₁ X₁.warmed) with ⟨v, B, X', hpost, hsteps⟩ | ⟨q, B, X', hpost, hsteps⟩
  · exact Or.inl ⟨v, vm₁, B, X₁.warmed, X', hpost, fun target h => hstep₁ _ fun acts => by rw [doInvoke_state]; exact hsteps.trans h⟩
  · exact Or.inr ⟨q, vm₁, B, X₁.warmed, X', hpost, hstep₁ _ fun acts => by rw [doInvoke_state]; exact hsteps⟩
end Calls
theorem vx_cls {s : State} {T : State} {vm₁ : Vm} {E : String} {k : ClassId} (hW : s.WarmedH vm₁) (h : (T.setVm vm₁).vm.findClass E = some k) : s.vm.findClass E = some k := by
  have h1 : vm₁.findClass E = some k := h
  rw [hW.alike.findClass] at h1
  exact h1
/-- the method's frame g, with q thrown over it -/
def vx_W (p : Program) (l : Launch) (e : Env) (R : Room) (s : State) (m : MethodId) (args : Array Value) (below : List Frame) (meth : Method) (c : Code) (H : Heap) (locs : List Loc) (cells slots : Nat) (Q : State → Prop) (g : JFrame) (q : Addr) : Prop :=
  ∀ T : State, T.heap = H → Stand p l e R s m args below meth c T locs cells slots → ∃ t, Steps p.tables e below ((T.setTop g).pushFrame (.throwing q)) t ∧ Q t
def vx_Run (p : Program) (l : Launch) (e : Env) (R : Room) (s : State) (m : MethodId) (args : Array Value) (below : List Frame) (meth : Method) (c : Code) (H : Heap) (locs : List Loc) (cells slots mc ms : Nat) (g : JFrame) (rest : List Value) (Qa : State → Outcome → State → Prop) (XC : String → State → State → Prop) (free : Addr → Prop) : Prop :=
  ∀ T : State, T.heap = H → Stand p l e R s m args below meth c T locs cells slots →
    (∃ (v : Option Value) (st₀ t T' : State) (L : List Loc), st₀.heap = H ∧ Stand p l e R s m args below meth c T' (locs ++ L) (cells + mc) (slots + ms) ∧ (∀ q ∈ L, free q.base) ∧ T'.heap = t.heap ∧ T'.vm = t.vm ∧ Qa st₀ (.returned v) t ∧
      Goes p e below T g T' { g with pc := g.pc + 3, stack := v.toList ++ rest }) ∨
    (∃ (q : Addr) (st₀ t T' : State) (L : List Loc) (E : String) (ce : Cell), st₀.heap = H ∧ Stand p l e R s m args below meth c T' (locs ++ L) (cells + mc) (slots + ms) ∧ (∀ z ∈ L, free z.base) ∧ T'.heap = t.heap ∧ T'.vm = t.vm ∧ XC E st₀ t ∧ t.heap[q]? = some ce ∧ ce.vm = .none ∧ s.vm.findClass E = some ce.cls ∧
      Steps p.tables e below (T.setTop g) ((T'.setTop { g with stack := rest }).pushFrame (.throwing q)))
def vx_X {S : Type} (px : S → Prop) (B : String → S → State → Prop) (A : Nat → Prop) : String → State → State → Prop := fun E st t => ∃ u : S, px u ∧ B E u t ∧ va_F A st t
section Runs
variable {p : Program} {l : Launch} {e : Env} {R : Room} {s : State} {m : MethodId} {args : Array Value} {below : List Frame} {meth : Method} {c : Code} {H : Heap} {locs : List Loc} {cells slots : Nat}
variable {y : MethodName} {bytes cc : ByteArray} {maxL nL mc ms n index : Nat} {ret : Option FieldType} {ws : List Cond} {rm : Room} {Pc : Array Value → State → Prop} {Qc : Array Value → State → Outcome → State → Prop} {XC : String → State → State → Prop} {free : Addr → Prop} {Ts : List Cond} {own C : String} {b : Addr} {As rest : List Value} {g : JFrame}
theorem vx_callBack (cb : CallB R s args own index y bytes maxL ret ws rm mc ms n) (hM : vx_Met l y ws rm Pc Qc XC mc ms free) (hbl : FrameBlind Pc) : vx_Back l R p e below s args y 3 8 (PreOf R mc ms Pc) (PostOf Qc mc ms free) (vx_Post XC mc ms free) := by
  obtain ⟨hrc, hrs, hfr, hlo, hws, hcw, -, hini, -⟩ := cb
  exact vx_back (bytes := bytes) (maxL := maxL) (ret := ret) hM hbl hrc hrs hfr hlo hws hcw (fun a' U hW => word_at hW (Or.inl (by first | rfl | simp [Cond.onTables, Cond.keeps, Cond.steady])) hini)
theorem vx_runV (S : CallFix p m c cc nL s args Ts own) (hM : vx_Met l y ws rm Pc Qc XC mc ms free) (cw : CallW R s args own C index y bytes maxL ret ws rm mc ms n) (hp : PreV s H C b Pc As)
    (hg : g.method = m) (hn : As.length = n) (hsize : g.locals.size = nL) (hstack : g.stack = As.reverse ++ .ref b :: rest) (hW : 2 * g.monitorRoom + (rest.map fun v => v.category).sum ≤ 8) (hdg : decode cc g.pc = .ok (.invokevirtual index, 3)) (hf : cells + mc ≤ R.cells ∧ slots + ms ≤ R.slots) :
    vx_Run p l e R s m args below meth c H locs cells slots mc ms g rest (Qc (Value.ref b :: As).toArray) XC free := by
  have hK : vx_Back l R p e below s args y 3 8 (PreOf R mc ms Pc) (PostOf Qc mc ms free) (vx_Post XC mc ms free) := vx_callBack cw.1 hM hp.1
  obtain ⟨⟨-, -, -, -, -, -, hcode, -, hy, hlen, hl⟩, hin, hse⟩ := cw
  obtain ⟨hx, hb, hml, ho, -⟩ := S
  obtain ⟨-, ⟨cellB, hcB, hoB, hclB⟩, hPc⟩ := hp
  intro T hT X
  rcases vx_callV X hx (C := C) (bytes := bytes) (maxL := maxL) (ret := ret) ho hl hin hse hcode hy hK (by rw [hT]; exact hcB) hoB hclB hg (hsize.trans hml.symm) (argsL := As) (rest := rest) (fun sig h => hn.trans (hlen sig h)) hstack hW (by rw [hb]; exact hdg)
    (fun vm₁ hW₁ => ⟨hf.1, hf.2, hPc (T.setVm vm₁) hT hW₁⟩) with ⟨v, vm₁, ⟨U', l2, c2, s2⟩, hW₁, X', ⟨g', mk, t, L, e1, e2, hq, h1, hL, h2, h3⟩, st⟩ | ⟨q, vm₁, ⟨U', l2, c2, s2⟩, hW₁, X', ⟨g', mk, t, L, E, ce, e1, e2, hq, hce, hcv, hcl, h1, hL, h2, h3⟩, st⟩
  · dsimp only [Pt.U, Pt.locs, Pt.cells, Pt.slots] at X' e1 e2 h1 h2 h3 st
    subst h1; subst h2; subst h3
    exact Or.inl ⟨v, (T.setVm vm₁).calling g' mk (Value.ref b :: As).toArray, t, U', L, hT, X', hL, e1, e2, hq, st⟩
  · dsimp only [Pt.U, Pt.locs, Pt.cells, Pt.slots] at X' e1 e2 h1 h2 h3 st hcl
    subst h1; subst h2; subst h3
    exact Or.inr ⟨q, (T.setVm vm₁).calling g' mk (Value.ref b :: As).toArray, t, U', L, E, ce, hT, X', hL, e1, e2, hq, hce, hcv, vx_cls hW₁ hcl, st⟩
theorem vx_runS (S : CallFix p m c cc nL s args Ts own) (hM : vx_Met l y ws rm Pc Qc XC mc ms free) (cw : CallB R s args own index y bytes maxL ret ws rm mc ms n ∧ (Cond.static y).before args s = true) (hp : PreS s H Pc As)
    (hg : g.method = m) (hn : As.length = n) (hsize : g.locals.size = nL) (hstack : g.stack = As.reverse ++ rest) (hW : 2 * g.monitorRoom + (rest.map fun v => v.category).sum ≤ 8) (hdg : decode cc g.pc = .ok (.invokestatic index, 3)) (hf : cells + mc ≤ R.cells ∧ slots + ms ≤ R.slots) :
    vx_Run p l e R s m args below meth c H locs cells slots mc ms g rest (Qc As.toArray) XC free := by
  have hK : vx_Back l R p e below s args y 3 8 (PreOf R mc ms Pc) (PostOf Qc mc ms free) (vx_Post XC mc ms free) := vx_callBack cw.1 hM hp.1
  obtain ⟨⟨-, -, -, -, -, -, hcode, hini, hy, hlen, hl⟩, hstt⟩ := cw
  obtain ⟨hx, hb, hml, ho, -⟩ := S
  intro T hT X
  rcases vx_callS X hx (bytes := bytes) (maxL := maxL) (ret := ret) ho hl hstt hini hcode hy hK hg (hsize.trans hml.symm) (argsL := As) (rest := rest) (fun sig h => hn.trans (hlen sig h)) hstack hW (by rw [hb]; exact hdg)
    (fun vm₁ hW₁ => ⟨hf.1, hf.2, hp.2 (T.setVm vm₁) hT hW₁⟩) with ⟨v, vm₁, ⟨U', l2, c2, s2⟩, hW₁, X', ⟨g', mk, t, L, e1, e2, hq, h1, hL, h2, h3⟩, st⟩ | ⟨q, vm₁, ⟨U', l2, c2, s2⟩, hW₁, X', ⟨g', mk, t, L, E, ce, e1, e2, hq, hce, hcv, hcl, h1, hL, h2, h3⟩, st⟩
  · dsimp only [Pt.U, Pt.locs, Pt.cells, Pt.slots] at X' e1 e2 h1 h2 h3 st
    subst h1; subst h2; subst h3
    exact Or.inl ⟨v, (T.setVm vm₁).calling g' mk As.toArray, t, U', L, hT, X', hL, e1, e2, hq, st⟩
  · dsimp only [Pt.U, Pt.locs, Pt.cells, Pt.slots] at X' e1 e2 h1 h2 h3 st hcl
    subst h1; subst h2; subst h3
    exact Or.inr ⟨q, (T.setVm vm₁).calling g' mk As.toArray, t, U', L, E, ce, hT, X', hL, e1, e2, hq, hce, hcv, vx_cls hW₁ hcl, st⟩
end Runs
section Rows
variable {p : Program} {l : Launch} {e : Env} {R : Room} {s : State} {m : MethodId} {args : Array Value} {below : List Frame} {meth : Method} {c : Code} {H : Heap} {locs : List Loc} {cells slots : Nat} {Q : State → Prop}
variable {mc ms : Nat} {free : Addr → Prop} {A0 A1 : Nat → Prop} {H0 : Heap} {a : Array Value} {pc : Nat} {ls : Array Slot} {st0 rest : List Value}
theorem vx_keep {st₀ t T' : State} {L : List Loc} (h0 : st₀.heap = H) (e1 : T'.heap = t.heap) (hS : va_S A0 H0 H locs) (hA : ∀ q, q < H.size → A1 q → A0 q) (hf : ∀ q, free q → A0 q) (hL : ∀ q ∈ L, free q.base) (hF : va_F A1 st₀ t) :
    H.size ≤ T'.heap.size ∧ (∀ q : Nat, q < H.size → ¬ A1 q → T'.heap[q]? = H[q]?) ∧ va_S A0 H0 T'.heap (locs ++ L) := by
  obtain ⟨hz, hk⟩ := hF
  rw [h0] at hz hk
  exact ⟨by rw [e1]; exact hz, fun q h1 h2 => by rw [e1]; exact hk q h1 h2,
    ⟨Nat.le_trans hS.1 (by rw [e1]; exact hz), fun q h1 h2 => by rw [e1, hk q (Nat.lt_of_lt_of_le h1 hS.1) (fun z => h2 (hA q (Nat.lt_of_lt_of_le h1 hS.1) z))]; exact hS.2.1 q h1 h2, fun q hq => by
      rcases List.mem_append.mp hq with h | h
      · exact hS.2.2 q h
      · exact hf _ (hL q h)⟩⟩
theorem vx_calli {S SX : Type} {post : Int32 → S → Prop} {px : SX → Prop} {B : S → State → Prop} {BX : String → SX → State → Prop} {AX : Nat → Prop} (hr : vx_Run p l e R s m args below meth c H locs cells slots mc ms (F0 m pc ls st0) rest (va_Qi post B A1 a) (vx_X px BX AX) free) (hS : va_S A0 H0 H locs) (hA : ∀ q, q < H.size → A1 q → A0 q) (hf : ∀ q, free q → A0 q) (hAX : ∀ q, q < H.size → AX q → A0 q)
    (kx : ∀ (E : String) (ce : Cell) (q9 : Addr) (u : SX) (t : State) (H1 : Heap) (locs1 : List Loc), t.heap = H1 → s.vm.Alike t.vm → px u → BX E u t → H.size ≤ H1.size → (∀ q : Nat, q < H.size → ¬ AX q → H1[q]? = H[q]?) → va_S A0 H0 H1 locs1 → H1[q9]? = some ce → ce.vm = .none → s.vm.findClass E = some ce.cls → vx_W p l e R s m args below meth c H1 locs1 (cells + mc) (slots + ms) Q (F0 m pc ls rest) q9)
    (kk : ∀ (r : Int32) (u : S) (t : State) (H1 : Heap) (locs1 : List Loc), t.heap = H1 → s.vm.Alike t.vm → post r u → B u t → H.size ≤ H1.size → (∀ q : Nat, q < H.size → ¬ A1 q → H1[q]? = H[q]?) → va_S A0 H0 H1 locs1 → W p l e R s m args below meth c H1 locs1 (cells + mc) (slots + ms) Q (F0 m (pc + 3) ls (.int r :: rest))) : W p l e R s m args below meth c H locs cells slots Q (F0 m pc ls st0) := by
  intro T hT X
  rcases hr T hT X with ⟨v, st₀, t, T', L, h0, X', hL, e1, e2, ⟨⟨r, u, hv, hp, hb⟩, hF⟩, st⟩ | ⟨q, st₀, t, T', L, E, ce, h0, X', hL, e1, e2, ⟨u, hp, hb, hF⟩, hce, hcv, hcl, st⟩
  · cases hv
    obtain ⟨k1, k2, k3⟩ := vx_keep h0 e1 hS hA hf hL hF
    obtain ⟨t2, a1, b1⟩ := kk r u t T'.heap (locs ++ L) e1.symm (by rw [← e2]; exact X'.warmed.alike) hp hb k1 k2 k3 T' rfl X'
    exact ⟨t2, st t2 a1, b1⟩
  · obtain ⟨k1, k2, k3⟩ := vx_keep h0 e1 hS hAX hf hL hF
    obtain ⟨t2, a1, b1⟩ := kx E ce q u t T'.heap (locs ++ L) e1.symm (by rw [← e2]; exact X'.warmed.alike) hp hb k1 k2 k3 (by rw [e1]; exact hce) hcv hcl T' rfl X'
    exact ⟨t2, st.trans a1, b1⟩
theorem vx_calll {S SX : Type} {post : Int64 → S → Prop} {px : SX → Prop} {B : S → State → Prop} {BX : String → SX → State → Prop} {AX : Nat → Prop} (hr : vx_Run p l e R s m args below meth c H locs cells slots mc ms (F0 m pc ls st0) rest (va_Ql post B A1 a) (vx_X px BX AX) free) (hS : va_S A0 H0 H locs) (hA : ∀ q, q < H.size → A1 q → A0 q) (hf : ∀ q, free q → A0 q) (hAX : ∀ q, q < H.size → AX q → A0 q)
    (kx : ∀ (E : String) (ce : Cell) (q9 : Addr) (u : SX) (t : State) (H1 : Heap) (locs1 : List Loc), t.heap = H1 → s.vm.Alike t.vm → px u → BX E u t → H.size ≤ H1.size → (∀ q : Nat, q < H.size → ¬ AX q → H1[q]? = H[q]?) → va_S A0 H0 H1 locs1 → H1[q9]? = some ce → ce.vm = .none → s.vm.findClass E = some ce.cls → vx_W p l e R s m args below meth c H1 locs1 (cells + mc) (slots + ms) Q (F0 m pc ls rest) q9)
    (kk : ∀ (r : Int64) (u : S) (t : State) (H1 : Heap) (locs1 : List Loc), t.heap = H1 → s.vm.Alike t.vm → post r u → B u t → H.size ≤ H1.size → (∀ q : Nat, q < H.size → ¬ A1 q → H1[q]? = H[q]?) → va_S A0 H0 H1 locs1 → W p l e R s m args below meth c H1 locs1 (cells + mc) (slots + ms) Q (F0 m (pc + 3) ls (.long r :: rest))) : W p l e R s m args below meth c H locs cells slots Q (F0 m pc ls st0) := by
  intro T hT X
  rcases hr T hT X with ⟨v, st₀, t, T', L, h0, X', hL, e1, e2, ⟨⟨r, u, hv, hp, hb⟩, hF⟩, st⟩ | ⟨q, st₀, t, T', L, E, ce, h0, X', hL, e1, e2, ⟨u, hp, hb, hF⟩, hce, hcv, hcl, st⟩
  · cases hv
    obtain ⟨k1, k2, k3⟩ := vx_keep h0 e1 hS hA hf hL hF
    obtain ⟨t2, a1, b1⟩ := kk r u t T'.heap (locs ++ L) e1.symm (by rw [← e2]; exact X'.warmed.alike) hp hb k1 k2 k3 T' rfl X'
    exact ⟨t2, st t2 a1, b1⟩
  · obtain ⟨k1, k2, k3⟩ := vx_keep h0 e1 hS hAX hf hL hF
    obtain ⟨t2, a1, b1⟩ := kx E ce q u t T'.heap (locs ++ L) e1.symm (by rw [← e2]; exact X'.warmed.alike) hp hb k1 k2 k3 (by rw [e1]; exact hce) hcv hcl T' rfl X'
    exact ⟨t2, st.trans a1, b1⟩
theorem vx_callf {S SX : Type} {post : UInt32 → S → Prop} {px : SX → Prop} {B : S → State → Prop} {BX : String → SX → State → Prop} {AX : Nat → Prop} (hr : vx_Run p l e R s m args below meth c H locs cells slots mc ms (F0 m pc ls st0) rest (va_Qf post B A1 a) (vx_X px BX AX) free) (hS : va_S A0 H0 H locs) (hA : ∀ q, q < H.size → A1 q → A0 q) (hf : ∀ q, free q → A0 q) (hAX : ∀ q, q < H.size → AX q → A0 q)
    (kx : ∀ (E : String) (ce : Cell) (q9 : Addr) (u : SX) (t : State) (H1 : Heap) (locs1 : List Loc), t.heap = H1 → s.vm.Alike t.vm → px u → BX E u t → H.size ≤ H1.size → (∀ q : Nat, q < H.size → ¬ AX q → H1[q]? = H[q]?) → va_S A0 H0 H1 locs1 → H1[q9]? = some ce → ce.vm = .none → s.vm.findClass E = some ce.cls → vx_W p l e R s m args below meth c H1 locs1 (cells + mc) (slots + ms) Q (F0 m pc ls rest) q9)
    (kk : ∀ (r : UInt32) (u : S) (t : State) (H1 : Heap) (locs1 : List Loc), t.heap = H1 → s.vm.Alike t.vm → post r u → B u t → H.size ≤ H1.size → (∀ q : Nat, q < H.size → ¬ A1 q → H1[q]? = H[q]?) → va_S A0 H0 H1 locs1 → W p l e R s m args below meth c H1 locs1 (cells + mc) (slots + ms) Q (F0 m (pc + 3) ls (.float r :: rest))) : W p l e R s m args below meth c H locs cells slots Q (F0 m pc ls st0) := by
  intro T hT X
  rcases hr T hT X with ⟨v, st₀, t, T', L, h0, X', hL, e1, e2, ⟨⟨r, u, hv, hp, hb⟩, hF⟩, st⟩ | ⟨q, st₀, t, T', L, E, ce, h0, X', hL, e1, e2, ⟨u, hp, hb, hF⟩, hce, hcv, hcl, st⟩
  · cases hv
    obtain ⟨k1, k2, k3⟩ := vx_keep h0 e1 hS hA hf hL hF
    obtain ⟨t2, a1, b1⟩ := kk r u t T'.heap (locs ++ L) e1.symm (by rw [← e2]; exact X'.warmed.alike) hp hb k1 k2 k3 T' rfl X'
    exact ⟨t2, st t2 a1, b1⟩
  · obtain ⟨k1, k2, k3⟩ := vx_keep h0 e1 hS hAX hf hL hF
    obtain ⟨t2, a1, b1⟩ := kx E ce q u t T'.heap (locs ++ L) e1.symm (by rw [← e2]; exact X'.warmed.alike) hp hb k1 k2 k3 (by rw [e1]; exact hce) hcv hcl T' rfl X'
    exact ⟨t2, st.trans a1, b1⟩
theorem vx_calld {S SX : Type} {post : UInt64 → S → Prop} {px : SX → Prop} {B : S → State → Prop} {BX : String → SX → State → Prop} {AX : Nat → Prop} (hr : vx_Run p l e R s m args below meth c H locs cells slots mc ms (F0 m pc ls st0) rest (va_Qd post B A1 a) (vx_X px BX AX) free) (hS : va_S A0 H0 H locs) (hA : ∀ q, q < H.size → A1 q → A0 q) (hf : ∀ q, free q → A0 q) (hAX : ∀ q, q < H.size → AX q → A0 q)
    (kx : ∀ (E : String) (ce : Cell) (q9 : Addr) (u : SX) (t : State) (H1 : Heap) (locs1 : List Loc), t.heap = H1 → s.vm.Alike t.vm → px u → BX E u t → H.size ≤ H1.size → (∀ q : Nat, q < H.size → ¬ AX q → H1[q]? = H[q]?) → va_S A0 H0 H1 locs1 → H1[q9]? = some ce → ce.vm = .none → s.vm.findClass E = some ce.cls → vx_W p l e R s m args below meth c H1 locs1 (cells + mc) (slots + ms) Q (F0 m pc ls rest) q9)
    (kk : ∀ (r : UInt64) (u : S) (t : State) (H1 : Heap) (locs1 : List Loc), t.heap = H1 → s.vm.Alike t.vm → post r u → B u t → H.size ≤ H1.size → (∀ q : Nat, q < H.size → ¬ A1 q → H1[q]? = H[q]?) → va_S A0 H0 H1 locs1 → W p l e R s m args below meth c H1 locs1 (cells + mc) (slots + ms) Q (F0 m (pc + 3) ls (.double r :: rest))) : W p l e R s m args below meth c H locs cells slots Q (F0 m pc ls st0) := by
  intro T hT X
  rcases hr T hT X with ⟨v, st₀, t, T', L, h0, X', hL, e1, e2, ⟨⟨r, u, hv, hp, hb⟩, hF⟩, st⟩ | ⟨q, st₀, t, T', L, E, ce, h0, X', hL, e1, e2, ⟨u, hp, hb, hF⟩, hce, hcv, hcl, st⟩
  · cases hv
    obtain ⟨k1, k2, k3⟩ := vx_keep h0 e1 hS hA hf hL hF
    obtain ⟨t2, a1, b1⟩ := kk r u t T'.heap (locs ++ L) e1.symm (by rw [← e2]; exact X'.warmed.alike) hp hb k1 k2 k3 T' rfl X'
    exact ⟨t2, st t2 a1, b1⟩
  · obtain ⟨k1, k2, k3⟩ := vx_keep h0 e1 hS hAX hf hL hF
    obtain ⟨t2, a1, b1⟩ := kx E ce q u t T'.heap (locs ++ L) e1.symm (by rw [← e2]; exact X'.warmed.alike) hp hb k1 k2 k3 (by rw [e1]; exact hce) hcv hcl T' rfl X'
    exact ⟨t2, st.trans a1, b1⟩
theorem vx_callv {S SX : Type} {post : S → Prop} {px : SX → Prop} {B : S → State → Prop} {BX : String → SX → State → Prop} {AX : Nat → Prop} (hr : vx_Run p l e R s m args below meth c H locs cells slots mc ms (F0 m pc ls st0) rest (va_Qv post B A1 a) (vx_X px BX AX) free) (hS : va_S A0 H0 H locs) (hA : ∀ q, q < H.size → A1 q → A0 q) (hf : ∀ q, free q → A0 q) (hAX : ∀ q, q < H.size → AX q → A0 q)
    (kx : ∀ (E : String) (ce : Cell) (q9 : Addr) (u : SX) (t : State) (H1 : Heap) (locs1 : List Loc), t.heap = H1 → s.vm.Alike t.vm → px u → BX E u t → H.size ≤ H1.size → (∀ q : Nat, q < H.size → ¬ AX q → H1[q]? = H[q]?) → va_S A0 H0 H1 locs1 → H1[q9]? = some ce → ce.vm = .none → s.vm.findClass E = some ce.cls → vx_W p l e R s m args below meth c H1 locs1 (cells + mc) (slots + ms) Q (F0 m pc ls rest) q9)
    (kk : ∀ (u : S) (t : State) (H1 : Heap) (locs1 : List Loc), t.heap = H1 → s.vm.Alike t.vm → post u → B u t → H.size ≤ H1.size → (∀ q : Nat, q < H.size → ¬ A1 q → H1[q]? = H[q]?) → va_S A0 H0 H1 locs1 → W p l e R s m args below meth c H1 locs1 (cells + mc) (slots + ms) Q (F0 m (pc + 3) ls (rest))) : W p l e R s m args below meth c H locs cells slots Q (F0 m pc ls st0) := by
  intro T hT X
  rcases hr T hT X with ⟨v, st₀, t, T', L, h0, X', hL, e1, e2, ⟨⟨u, hv, hp, hb⟩, hF⟩, st⟩ | ⟨q, st₀, t, T', L, E, ce, h0, X', hL, e1, e2, ⟨u, hp, hb, hF⟩, hce, hcv, hcl, st⟩
  · cases hv
    obtain ⟨k1, k2, k3⟩ := vx_keep h0 e1 hS hA hf hL hF
    obtain ⟨t2, a1, b1⟩ := kk u t T'.heap (locs ++ L) e1.symm (by rw [← e2]; exact X'.warmed.alike) hp hb k1 k2 k3 T' rfl X'
    exact ⟨t2, st t2 a1, b1⟩
  · obtain ⟨k1, k2, k3⟩ := vx_keep h0 e1 hS hAX hf hL hF
    obtain ⟨t2, a1, b1⟩ := kx E ce q u t T'.heap (locs ++ L) e1.symm (by rw [← e2]; exact X'.warmed.alike) hp hb k1 k2 k3 (by rw [e1]; exact hce) hcv hcl T' rfl X'
    exact ⟨t2, st.trans a1, b1⟩
/-- caught by the row x of this method's table; the rows ahead don't take it -/
theorem vx_catch {own name : String} {E : String} {ce : Cell} {q : Addr} (hown : s.vm.findClass own = some m.cls) (pre : List ExceptionTableEntry) (x : ExceptionTableEntry) (suf : List ExceptionTableEntry) (hsplit : c.exceptionTable.toList = pre ++ x :: suf)
    (hpass : ∀ z ∈ pre, covers z pc = false ∨ (z.catchType ≠ 0 ∧ ∃ nm : String, (Cond.classLink own z.catchType nm).before args s = true ∧ va_Nc E nm s)) (hx : covers x pc = true) (h0 : x.catchType ≠ 0)
    (hlink : (Cond.classLink own x.catchType name).before args s = true) (hcast : (Cond.castable E name).before args s = true) (hcell : H[q]? = some ce) (hv : ce.vm = .none) (hcl : s.vm.findClass E = some ce.cls)
    (kk : W p l e R s m args below meth c H locs cells slots Q (F0 m x.handlerPc ls [.ref q])) : vx_W p l e R s m args below meth c H locs cells slots Q (F0 m pc ls rest) q := by
  intro T hT X
  have hpl : e.platform.magicAccessors = ({} : Platform).magicAccessors := by rw [X.admits.platform]
  obtain ⟨c3, c4, hc3, hc4, hasg⟩ := Cond.castable_spec hcast
  cases Option.some.inj (hc3.symm.trans hcl)
  obtain ⟨c5, hc5, hcl5⟩ := Cond.classLink_spec hown hlink e.platform hpl
  cases Option.some.inj (hc4.symm.trans hc5)
  obtain ⟨vm', X', st⟩ := X.thenCaughtThrough q (g := F0 m pc ls rest) rfl (Steps.refl _) (by rw [hT]; exact hcell) (by rw [hv]; rfl) (by obtain ⟨k9, h9, -⟩ := Vm.findClass_spec hcl; exact ⟨k9, h9⟩) pre x suf hsplit
    (fun z hz => by
      rcases hpass z hz with h | ⟨hz0, nm, hl1, hn1⟩
      · exact Or.inl h
      · obtain ⟨c6, hc6, hcl6⟩ := Cond.classLink_spec hown hl1 e.platform hpl
        obtain ⟨a8, b8, h1, h2, h3⟩ := hn1
        cases Option.some.inj (h1.symm.trans hcl)
        cases Option.some.inj (h2.symm.trans hc6)
        exact Or.inr ⟨hz0, _, hcl6, h3⟩) hx (Or.inr ⟨h0, c4, hcl5, hasg⟩)
  obtain ⟨t, a1, b1⟩ := kk (T.setVm vm') hT X'
  exact ⟨t, st.trans a1, b1⟩
end Rows
section Ends
variable {p : Program} {l : Launch} {e : Env} {R : Room} {s : State} {m : MethodId} {args : Array Value} {below : List Frame} {meth : Method} {c : Code} {H : Heap} {locs : List Loc} {cells slots : Nat} {Q : State → Prop}
variable {mc ms : Nat} {free : Addr → Prop} {A0 A1 : Nat → Prop} {H0 : Heap} {a : Array Value} {ls : Array Slot} {st0 rest : List Value}
variable {Qc : Array Value → State → Outcome → State → Prop} {XC : String → State → State → Prop}
/-- what a body that may throw owes at its end -/
def vx_MQ (below : List Frame) (Qc : Array Value → State → Outcome → State → Prop) (XC : String → State → State → Prop) (a : Array Value) (s : State) (mc ms : Nat) (free : Addr → Prop) : State → Prop := fun t =>
  ∃ o, t.status = .running ∧ Ended t below o ∧ vx_Q Qc XC mc ms free a s o t
theorem vx_ret {g : JFrame} {mc ms : Nat} (k : W p l e R s m args below meth c H locs cells slots (MQ below Qc args s mc ms free) g) : W p l e R s m args below meth c H locs cells slots (vx_MQ below Qc XC args s mc ms free) g := by
  intro T hT X
  obtain ⟨t, a1, o, b1, b2, b3, b4⟩ := k T hT X
  exact ⟨t, a1, o, b1, b2, Or.inl ⟨b3, b4⟩⟩
/-- not caught here: it goes on to the caller -/
theorem vx_widen {g : JFrame} {q : Addr} {k n : Nat} (h1 : cells ≤ k) (h2 : slots ≤ n) (kk : vx_W p l e R s m args below meth c H locs k n Q g q) : vx_W p l e R s m args below meth c H locs cells slots Q g q := fun T hT X => kk T hT (stand_widen X h1 h2)
theorem vx_out {pc : Nat} {E : String} {ce : Cell} {q : Addr} {mc ms : Nat} (hout : ∀ x ∈ c.exceptionTable.toList, covers x pc = false) (hlocks : meth.locks = false) (hcell : H[q]? = some ce) (hv : ce.vm = .none) (hcl : s.vm.findClass E = some ce.cls)
    (hx : ∀ t : State, t.heap = H → s.vm.Alike t.vm → XC E s t) (hf : ∀ z ∈ locs, free z.base) (hc : cells ≤ mc) (hs : slots ≤ ms) :
    vx_W p l e R s m args below meth c H locs cells slots (vx_MQ below Qc XC args s mc ms free) (F0 m pc ls rest) q := by
  intro T hT X
  obtain ⟨st1, hrun, hend, hW, hsm⟩ := X.leaveThrown q (g := F0 m pc ls rest) rfl rfl rfl hout hlocks
  have hcell9 : (T.setFrames (.throwing q :: below)).heap[q]? = some ce := by
    show T.heap[q]? = some ce
    rw [hT]; exact hcell
  exact ⟨_, st1, .threw q, hrun, hend, Or.inr ⟨q, rfl, E, ce, locs, hx _ hT hW.alike, hcell9, hv, hcl, hW, hsm.mono hc hs, hf⟩⟩
theorem vx_frame {U : State} {k n : Nat} (h : s.sameButNew ({ U with vm := s.vm } : State) locs k n) : s.heap.size ≤ U.heap.size ∧ ∀ q : Nat, q < s.heap.size → (∀ z ∈ locs, z.base ≠ q) → U.heap[q]? = s.heap[q]? := by
  obtain ⟨-, h2, -, -, -, h6⟩ := h
  refine ⟨h2, fun q hq hz => ?_⟩
  obtain ⟨c9, e1, e2, e3, e4⟩ := h6 q _ (Array.getElem?_eq_getElem hq)
  have hs : c9.slots = (s.heap[q]).slots := Array.ext_getElem? fun i => e4 i fun hm => hz _ hm rfl
  have h9 : c9 = s.heap[q] := by
    rw [hs] at e2
    exact e2
  have e5 : U.heap[q]? = some c9 := e1
  rw [e5, h9, Array.getElem?_eq_getElem hq]
/-- the words of a throw but the four that speak of the heap -/
def vx_no (w : Cond) : Bool := decide (w ≠ .isRef (.static Bundle.tN "UNASSIGNED_STACK" Bundle.steD)) && decide (w ≠ .isRef (.static Bundle.tN "SUPPRESSED_SENTINEL" Bundle.listD)) && decide (w ≠ .laysStatic Bundle.tN "UNASSIGNED_STACK" Bundle.steD) && decide (w ≠ .laysStatic Bundle.tN "SUPPRESSED_SENTINEL" Bundle.listD)
def vx_at0 (own : String) (ic : Nat) (X : String) (names : List String) : List Cond := (Bundle.ownAtoms0 own ic X names).filter vx_no
def vx_atS (own : String) (ic : Nat) (X : String) (names : List String) : List Cond := (Bundle.ownAtoms own ic X names).filter vx_no
/-- a word that the tables alone decide, or a good one -/
def vx_ot (w : Cond) : Bool := w.onTables || goodWord w
theorem vx_ot_at {args a' : Array Value} {s U : State} {w : Cond} (hW : s.WarmedH U.vm) (hvm : s.vm = U.vm) (hg : vx_ot w = true) (h : w.before args s = true) : w.before a' U = true := by
  simp only [vx_ot, Bool.or_eq_true] at hg
  rcases hg with hg | hg
  · exact va_tabs hg hvm h
  · exact word_at hW (good_of_word hg) h
/-- a list's words: the good ones out of the method's own list, the others by premises of their own -/
theorem vx_hat {args : Array Value} {s : State} {L B : List Cond} (h1 : ∀ w ∈ L.filter goodWord, w.before args s = true) (h2 : ∀ w ∈ L.filter (fun w => !goodWord w), w ∈ B) (h3 : ∀ w ∈ B, w.before args s = true) : ∀ w ∈ L, w.before args s = true := by
  intro w hw
  by_cases g : goodWord w = true
  · exact h1 w (List.mem_filter.mpr ⟨hw, g⟩)
  · refine h3 w (h2 w (List.mem_filter.mpr ⟨hw, ?_⟩))
    show (!goodWord w) = true
    cases hgw : goodWord w
    · rfl
    · exact absurd hgw g
theorem vx_c {args : Array Value} {s : State} {w : Cond} {B : List Cond} (h : w.before args s = true) (t : ∀ w ∈ B, w.before args s = true) : ∀ w' ∈ w :: B, w'.before args s = true := fun w' h' => (List.mem_cons.mp h').elim (fun e => by rw [e]; exact h) (t w')
theorem vx_n {args : Array Value} {s : State} : ∀ w ∈ ([] : List Cond), w.before args s = true := fun _ h => nomatch h
theorem vx_own {args : Array Value} {s : State} {L : List Cond} (h1 : ∀ w ∈ L.filter vx_no, w.before args s = true)
    (hU : (Cond.isRef (.static Bundle.tN "UNASSIGNED_STACK" Bundle.steD)).before args s = true) (hN : (Cond.isRef (.static Bundle.tN "SUPPRESSED_SENTINEL" Bundle.listD)).before args s = true)
    (lU : (Cond.laysStatic Bundle.tN "UNASSIGNED_STACK" Bundle.steD).before args s = true) (lN : (Cond.laysStatic Bundle.tN "SUPPRESSED_SENTINEL" Bundle.listD).before args s = true) : ∀ w ∈ L, w.before args s = true := by
  intro w hw
  by_cases e1 : w = .isRef (.static Bundle.tN "UNASSIGNED_STACK" Bundle.steD)
  · rw [e1]; exact hU
  · by_cases e2 : w = .isRef (.static Bundle.tN "SUPPRESSED_SENTINEL" Bundle.listD)
    · rw [e2]; exact hN
    · by_cases e3 : w = .laysStatic Bundle.tN "UNASSIGNED_STACK" Bundle.steD
      · rw [e3]; exact lU
      · by_cases e4 : w = .laysStatic Bundle.tN "SUPPRESSED_SENTINEL" Bundle.listD
        · rw [e4]; exact lN
        · exact h1 w (List.mem_filter.mpr ⟨hw, by unfold vx_no; rw [decide_eq_true e1, decide_eq_true e2, decide_eq_true e3, decide_eq_true e4]; rfl⟩)
/-- where a static field lies, its class's statics cell in H -/
def vx_L (C n d : String) (A : Nat → Prop) (U : State) (H : Heap) : Prop := ∃ (c : ClassId) (k : Class) (i : Nat) (f : Field) (a : Nat) (cell : Cell), U.vm.findClass C = some c ∧ U.fieldFound? C n d = some (c, k, i, f) ∧ f.isStatic = true ∧ k.statics = some a ∧ H[a]? = some cell ∧ cell.vm.isStatics = true ∧ cell.cls = c ∧ f.slot < cell.slots.size ∧ k.staticTypes[f.slot]? = some f.type ∧ ¬ A a
theorem vx_L.moved {C n d : String} {A : Nat → Prop} {u U : State} {H : Heap} (hvm : u.vm.Alike U.vm) (h : vx_L C n d A u H) : vx_L C n d A U H := by
  obtain ⟨c, k, i, f, a, cell, h1, h2, h3, h4, h5, h6, h7, h8, h9, h10⟩ := h
  obtain ⟨k', hi', he⟩ := State.fieldFound?_setVm hvm h2
  exact ⟨c, k', i, f, a, cell, by rw [hvm.findClass]; exact h1, hi', h3, by rw [he]; exact h4, h5, h6, h7, h8, by rw [he]; exact h9, h10⟩
theorem vx_L.kept {C n d : String} {A : Nat → Prop} {U : State} {H H1 : Heap} (h : vx_L C n d A U H) (hq : ∀ a : Nat, a < H.size → ¬ A a → H1[a]? = H[a]?) : vx_L C n d A U H1 := by
  obtain ⟨c, k, i, f, a, cell, h1, h2, h3, h4, h5, h6, h7, h8, h9, h10⟩ := h
  exact ⟨c, k, i, f, a, cell, h1, h2, h3, h4, by rw [hq a (Array.getElem?_eq_some_iff.mp h5).1 h10]; exact h5, h6, h7, h8, h9, h10⟩
theorem vx_L.narrow {C n d : String} {A B : Nat → Prop} {U : State} {H : Heap} (h : vx_L C n d A U H) (hAB : ∀ q, B q → A q) : vx_L C n d B U H := by
  obtain ⟨c, k, i, f, a, cell, h1, h2, h3, h4, h5, h6, h7, h8, h9, h10⟩ := h
  exact ⟨c, k, i, f, a, cell, h1, h2, h3, h4, h5, h6, h7, h8, h9, fun z => h10 (hAB _ z)⟩
theorem vx_L.word {C n d : String} {A : Nat → Prop} {s : State} {args : Array Value} (h : vx_L C n d A s s.heap) : (Cond.laysStatic C n d).before args s = true := by
  obtain ⟨c, k, i, f, a, cell, h1, h2, h3, h4, h5, h6, h7, h8, h9, -⟩ := h
  show (Cond.laysStatic C n d).holds args s none s [] = true
  exact Cond.laysStatic_of h1 h2 h3 h4 h5 h6 h7 h8 h9
/-- .. and what it holds: null or some reference -/
def vx_Zq (C n d : String) (A : Nat → Prop) (U : State) (H : Heap) : Prop := va_Zq C n d A U H ∧ vx_L C n d A U H
theorem vx_Zq.moved {C n d : String} {A : Nat → Prop} {u U : State} {H : Heap} (hvm : u.vm.Alike U.vm) (h : vx_Zq C n d A u H) : vx_Zq C n d A U H := ⟨va_Zq.moved hvm h.1, vx_L.moved hvm h.2⟩
theorem vx_Zq.kept {C n d : String} {A : Nat → Prop} {U : State} {H H1 : Heap} (h : vx_Zq C n d A U H) (hq : ∀ a : Nat, a < H.size → ¬ A a → H1[a]? = H[a]?) : vx_Zq C n d A U H1 := ⟨va_Zq.kept h.1 hq, vx_L.kept h.2 hq⟩
theorem vx_Zq.narrow {C n d : String} {A B : Nat → Prop} {U : State} {H : Heap} (h : vx_Zq C n d A U H) (hAB : ∀ q, B q → A q) : vx_Zq C n d B U H := ⟨va_Zq.narrow h.1 hAB, vx_L.narrow h.2 hAB⟩
theorem vx_Zqof {args : Array Value} {s : State} {C n d : String} {A : Nat → Prop} (hl : (Cond.laysStatic C n d).before args s = true) (hini : (Cond.initialized C).before args s = true) (h : (Cond.isRef (.static C n d)).before args s = true) (hA : ∀ a : Nat, a < s.heap.size → ¬ A a) : vx_Zq C n d A s s.heap := by
  refine ⟨va_Zqof hl hini h hA, ?_⟩
  obtain ⟨c, k, i, f, a, cell, h1, h2, h3, h4, h5, h6, h7, h8, h9⟩ := Cond.laysStatic_spec hl
  exact ⟨c, k, i, f, a, cell, h1, h2, h3, h4, h5, h6, h7, h8, h9, hA a (Array.getElem?_eq_some_iff.mp h5).1⟩
theorem vx_isRef {C n d : String} {v : Value} {A : Nat → Prop} {s : State} {args : Array Value} (h : va_Z C n d v A s s.heap) (hv : v.isRef = true) : (Cond.isRef (.static C n d)).before args s = true := by
  obtain ⟨cf, kf, fi, f, a, cell, h1, h2, h3, h4, h5, h6, h7, -⟩ := h
  have he : (Term.static C n d).eval args s none [] s = some v := by
    simp [Term.eval, State.fieldNamed?, h1, h2, h4, h5, h6, h7]
  simp only [Cond.before, Cond.holds, Cond.value, he]
  cases v <;> simp_all [Value.isRef]
theorem vx_isRefq {C n d : String} {A : Nat → Prop} {s : State} {args : Array Value} (h : va_Zq C n d A s s.heap) : (Cond.isRef (.static C n d)).before args s = true := by
  rcases h with h | ⟨t, h⟩
  · exact vx_isRef h rfl
  · exact vx_isRef h rfl
/-- the same frame, seen from here: as if the method were called anew in this heap -/
theorem vx_rebase {T : State} (X : Stand p l e R s m args below meth c T locs cells slots) {R' : Room} (hf : R'.frames ≤ R.frames) (hl : R'.locals ≤ R.locals) (hc : cells + R'.cells ≤ R.cells) (hs : slots + R'.slots ≤ R.slots) :
    Stand p l e R' ((T.setVm s.vm).setFrames (.invoking m args :: below)) m args below meth c T [] 0 0 := by
  have htop : (T.setVm s.vm).topJava?.isSome := X.here.top
  have hF : ((T.setVm s.vm).setFrames (.invoking m args :: below)).frames = .invoking m args :: below := State.frames_setFrames _ (State.cur_lt_of_top htop)
  obtain ⟨g₀, hg0⟩ := Option.isSome_iff_exists.mp htop
  obtain ⟨r, hr⟩ := State.topJava?_eq_some.mp hg0
  have hl9 : e.platform.stackLimits (T.setVm s.vm).me = e.platform.stackLimits s.me := X.limits
  have hb9 : (T.setVm s.vm).me.stackBytes = s.me.stackBytes := X.bytes
  refine ⟨X.admits, X.cas, X.clock, hF, ?_, X.hears, X.method, X.code, X.here, X.tail, X.warmed, ?_, ?_, ?_⟩
  · have h := X.room
    have hU : ((T.setVm s.vm).setFrames (.invoking m args :: below)).localsInUse = s.localsInUse := by
      rw [State.localsInUse_invoking hF (meth := meth) (c := c) X.method X.code, State.localsInUse_invoking X.frames X.method X.code]
    simp only [State.hasRoom, Bool.and_eq_true, decide_eq_true_eq] at h ⊢
    obtain ⟨⟨⟨⟨h1, h2, h3, h4, h5, h6⟩, h7⟩, h8⟩, h9⟩ := h
    rw [X.frames, List.length_cons] at h2 h3
    have q1 := X.heapSize
    have q2 := X.used
    simp only [hF, hU, List.length_cons, State.stackLimits_setFrames, State.stackBytes_setFrames, hl9, hb9]
    refine ⟨⟨⟨⟨by omega, by omega, by omega, by omega, by omega, h6⟩, ?_⟩, ?_⟩, X.book⟩
    · show T.heap.size + R'.cells ≤ e.platform.maxCells
      omega
    · show T.slotsUsed + R'.slots ≤ e.platform.maxSlots
      omega
  · rw [State.stackLimits_setFrames]; rfl
  · rw [State.stackBytes_setFrames]; rfl
  · refine ⟨?_, Nat.le_refl _, Nat.le_refl _, ?_, ?_, fun a c9 h9 => ⟨c9, h9, rfl, rfl, fun _ _ => rfl⟩⟩
    · obtain ⟨t, ht, -⟩ := State.frames_cons hr
      show T.setVm s.vm = { ((T.setVm s.vm).setFrames (.invoking m args :: below)).setFrames (T.setVm s.vm).frames with heap := T.heap, slotsUsed := T.slotsUsed }
      rw [State.setFrames_setFrames, State.setFrames_self ht]
      rfl
    · show T.slotsUsed = T.slotsUsed + ((T.heap.toList.drop T.heap.size).map (·.slots.size)).sum
      rw [List.drop_eq_nil_of_le (Nat.le_of_eq Array.length_toList)]
      rfl
    · show ((T.heap.toList.drop T.heap.size).map (·.slots.size)).sum ≤ 0
      rw [List.drop_eq_nil_of_le (Nat.le_of_eq Array.length_toList)]
      exact Nat.le_refl _
/-- 'throw new E()': new; dup; invokespecial; athrow -/
theorem vx_throw0 {cc : ByteArray} {pc : Nat} (hexec : p.tables.exec = Jvm.exec) (hb : c.code = cc) (hl : l.stackTraces = false) {own cls : String} {names : List String} {ik ic mc ms : Nat} {A : Nat → Prop}
    (hown : s.vm.findClass own = some m.cls) (hcls : Bundle.fit cls = true) (hnames : ∀ n ∈ names, Bundle.fit n = true)
    (hk : (Cond.classLink own ik cls).before args s = true) (hini : (Cond.initialized cls).before args s = true) (hat : ∀ w ∈ vx_at0 own ic cls names, w.before args s = true)
    (hgood : ∀ w ∈ Cond.classLink own ik cls :: Cond.initialized cls :: vx_at0 own ic cls names, vx_ot w = true)
    (hU : vx_Zq Bundle.tN "UNASSIGNED_STACK" Bundle.steD A s s.heap) (hN : vx_Zq Bundle.tN "SUPPRESSED_SENTINEL" Bundle.listD A s s.heap) (hS : va_S A s.heap H locs) (hsize : ls.size = c.maxLocals)
    (d0 : decode cc pc = .ok (.new ik, 3)) (d3 : decode cc (pc + 3) = .ok (.dup, 1)) (d4 : decode cc (pc + 4) = .ok (.invokespecial ic, 3)) (d7 : decode cc (pc + 7) = .ok (.athrow, 1))
    (hout : ∀ x ∈ c.exceptionTable.toList, covers x (pc + 7) = false)
    (hRframes : names.length + 3 < R.frames) (hRlocals : (rest.map fun v => v.category).sum + (13 * (names.length + 1) + 42) ≤ R.locals) (hRcells : cells + 1 ≤ R.cells) (hRslots : slots + 6 ≤ R.slots) (hlocks : meth.locks = false)
    (hx : ∀ t : State, s.vm.Alike t.vm → H.size ≤ t.heap.size → (∀ q : Nat, q < H.size → t.heap[q]? = H[q]?) → XC cls s t)
    (hf : ∀ z ∈ locs, free z.base) (hc : cells + 1 ≤ mc) (hs : slots + 6 ≤ ms) :
    W p l e R s m args below meth c H locs cells slots (vx_MQ below Qc XC args s mc ms free) (F0 m pc ls rest) := by
  intro T hT X
  have htr : e.platform.stackTraces = false := (show e.platform.stackTraces = l.stackTraces by rw [X.admits.platform]).trans hl
  have Y := vx_rebase X (R' := { frames := R.frames, locals := R.locals, cells := 1, slots := 6 }) (Nat.le_refl _) (Nat.le_refl _) hRcells hRslots
  obtain ⟨s', hA⟩ : ∃ z, z = (T.setVm s.vm).setFrames (.invoking m args :: below) := ⟨_, rfl⟩
  rw [← hA] at Y
  have hvm : s'.vm = s.vm := by rw [hA]; rfl
  have hhp : s'.heap = H := by rw [hA]; exact hT
  have hW0 : s.WarmedH s'.vm := by rw [hvm]; exact State.WarmedH.refl s
  have hat' : ∀ w ∈ vx_at0 own ic cls names, w.before args s' = true := fun w hw => vx_ot_at hW0 hvm.symm (hgood w (List.mem_cons_of_mem _ (List.mem_cons_of_mem _ hw))) (hat w hw)
  have hk' : (Cond.classLink own ik cls).before args s' = true := vx_ot_at hW0 hvm.symm (hgood _ List.mem_cons_self) hk
  have hini' : (Cond.initialized cls).before args s' = true := vx_ot_at hW0 hvm.symm (hgood _ (List.mem_cons_of_mem _ List.mem_cons_self)) hini
  have hU' : vx_Zq Bundle.tN "UNASSIGNED_STACK" Bundle.steD A s' s'.heap := by rw [hhp]; exact vx_Zq.moved hW0.alike (hU.kept hS.2.1)
  have hN' : vx_Zq Bundle.tN "SUPPRESSED_SENTINEL" Bundle.listD A s' s'.heap := by rw [hhp]; exact vx_Zq.moved hW0.alike (hN.kept hS.2.1)
  have h : ∀ w ∈ Bundle.ownAtoms0 own ic cls names, w.before args s' = true := vx_own hat' (vx_isRefq hU'.1) (vx_isRefq hN'.1) hU'.2.word hN'.2.word
  have hown' : s'.vm.findClass own = some m.cls := by rw [hvm]; exact hown
  have hins : (Cond.instantiable cls 6).before args s' = true := h _ (by simp [Bundle.ownAtoms0])
  obtain ⟨vm₁, cX, kX, hfX, hkX, -, -, X₁, st1⟩ := Y.newCold hexec (own := own) (C := cls) (index := ik) (n := 6) hown' hk' hins hini'
    (g := F0 m pc ls rest) rfl (by rw [hb]; exact d0) (Nat.le_refl _) (Nat.le_refl _)
  generalize hT1 : (T.setVm vm₁).pushCell { cls := cX, slots := kX.instanceTypes.map defaultValue, vm := .none } = T1 at X₁ st1
  have hcat : (Value.ref T.heap.size).category = 1 := rfl
  have hcellA : T1.heap[T.heap.size]? = some (freshCell cX kX) := by rw [← hT1]; exact State.heap_pushCell_size _ _
  have d3' : decode c.code (pc + 3) = .ok (.dup, 1) := by rw [hb]; exact d3
  obtain ⟨U, hsteps, hrun, hend, hW, hsame, ce, hce, hO⟩ := X₁.ctorThrow0 hexec htr (own := own) (cls := cls) (names := names) (ic := ic) hown' hcls hnames h (fun x hx => nomatch hx) hfX hkX hcellA (by rw [hhp, hT]; exact Nat.le_refl _)
    (g := { method := m, pc := pc + 4, locals := ls, stack := .ref T.heap.size :: .ref T.heap.size :: rest, locked := none }) rfl hsize rfl rfl (rest := rest) rfl
    (by rw [hb]; exact d4) (by rw [hb]; exact d7) hout hRframes (by simp only [List.map_cons, List.sum_cons, hcat]; omega) hlocks
  obtain ⟨f1, f2⟩ := vx_frame hsame
  rw [hhp] at f1 f2
  have hWs : s.WarmedH U.vm := State.WarmedH.trans hW0 hW
  have hcl : s.vm.findClass cls = some ce.cls := by
    have h9 := hO.cls
    rw [hvm] at h9
    exact h9
  have hall : s.sameButNew ({ U with vm := s.vm } : State) locs mc ms := by
    subst hA
    obtain ⟨e1, e2⟩ := hsame
    rw [State.setFrames_setFrames] at e1
    have h2 : (T.setVm s.vm).sameButNew ({ U with vm := s.vm } : State) [] (0 + 1) (0 + 6) := ⟨e1, e2⟩
    have h3 := X.same.trans h2
    rw [List.append_nil] at h3
    exact h3.mono hc hs
  refine ⟨U, ?_, .threw T.heap.size, hrun, hend, Or.inr ⟨T.heap.size, rfl, cls, ce, locs, hx U hWs.alike f1 (fun q hq => f2 q hq (fun z hz => nomatch hz)), hce, hO.vm, hcl, hWs, hall, hf⟩⟩
  refine st1 _ ?_
  show Steps p.tables e below (T1.setTop { method := m, pc := pc + 3, locals := ls, stack := .ref T.heap.size :: rest, locked := none }) _
  jvm_step X₁.here [X₁.here.top, hexec, d3', Value.category]
  exact hsteps
/-- 'throw new E("text")': new; dup; ldc; invokespecial; athrow -/
theorem vx_throwS {cc : ByteArray} {pc : Nat} (hexec : p.tables.exec = Jvm.exec) (hb : c.code = cc) (hl : l.stackTraces = false) {own cls text : String} {names : List String} {ik is ic mc ms sa : Nat} {A : Nat → Prop}
    (hown : s.vm.findClass own = some m.cls) (hcls : Bundle.fit cls = true) (hnames : ∀ n ∈ names, Bundle.fit n = true)
    (hk : (Cond.classLink own ik cls).before args s = true) (hini : (Cond.initialized cls).before args s = true) (hstr : vk_R own is text sa s) (hat : ∀ w ∈ vx_atS own ic cls names, w.before args s = true)
    (hgood : ∀ w ∈ Cond.classLink own ik cls :: Cond.initialized cls :: vx_atS own ic cls names, vx_ot w = true)
    (hU : vx_Zq Bundle.tN "UNASSIGNED_STACK" Bundle.steD A s s.heap) (hN : vx_Zq Bundle.tN "SUPPRESSED_SENTINEL" Bundle.listD A s s.heap) (hS : va_S A s.heap H locs) (hsize : ls.size = c.maxLocals)
    (d0 : decode cc pc = .ok (.new ik, 3)) (d3 : decode cc (pc + 3) = .ok (.dup, 1)) (d4 : decode cc (pc + 4) = .ok (.ldc is, 2)) (d6 : decode cc (pc + 6) = .ok (.invokespecial ic, 3)) (d9 : decode cc (pc + 9) = .ok (.athrow, 1))
    (hout : ∀ x ∈ c.exceptionTable.toList, covers x (pc + 9) = false)
    (hRframes : names.length + 3 < R.frames) (hRlocals : (rest.map fun v => v.category).sum + (13 * (names.length + 1) + 43) ≤ R.locals) (hRcells : cells + 1 ≤ R.cells) (hRslots : slots + 6 ≤ R.slots) (hlocks : meth.locks = false)
    (hx : ∀ t : State, s.vm.Alike t.vm → H.size ≤ t.heap.size → (∀ q : Nat, q < H.size → t.heap[q]? = H[q]?) → XC cls s t)
    (hf : ∀ z ∈ locs, free z.base) (hc : cells + 1 ≤ mc) (hs : slots + 6 ≤ ms) :
    W p l e R s m args below meth c H locs cells slots (vx_MQ below Qc XC args s mc ms free) (F0 m pc ls rest) := by
  intro T hT X
  have htr : e.platform.stackTraces = false := (show e.platform.stackTraces = l.stackTraces by rw [X.admits.platform]).trans hl
  have Y := vx_rebase X (R' := { frames := R.frames, locals := R.locals, cells := 1, slots := 6 }) (Nat.le_refl _) (Nat.le_refl _) hRcells hRslots
  obtain ⟨s', hA⟩ : ∃ z, z = (T.setVm s.vm).setFrames (.invoking m args :: below) := ⟨_, rfl⟩
  rw [← hA] at Y
  have hvm : s'.vm = s.vm := by rw [hA]; rfl
  have hhp : s'.heap = H := by rw [hA]; exact hT
  have hW0 : s.WarmedH s'.vm := by rw [hvm]; exact State.WarmedH.refl s
  have hat' : ∀ w ∈ vx_atS own ic cls names, w.before args s' = true := fun w hw => vx_ot_at hW0 hvm.symm (hgood w (List.mem_cons_of_mem _ (List.mem_cons_of_mem _ hw))) (hat w hw)
  have hk' : (Cond.classLink own ik cls).before args s' = true := vx_ot_at hW0 hvm.symm (hgood _ List.mem_cons_self) hk
  have hini' : (Cond.initialized cls).before args s' = true := vx_ot_at hW0 hvm.symm (hgood _ (List.mem_cons_of_mem _ List.mem_cons_self)) hini
  have hU' : vx_Zq Bundle.tN "UNASSIGNED_STACK" Bundle.steD A s' s'.heap := by rw [hhp]; exact vx_Zq.moved hW0.alike (hU.kept hS.2.1)
  have hN' : vx_Zq Bundle.tN "SUPPRESSED_SENTINEL" Bundle.listD A s' s'.heap := by rw [hhp]; exact vx_Zq.moved hW0.alike (hN.kept hS.2.1)
  have h : ∀ w ∈ Bundle.ownAtoms own ic cls names, w.before args s' = true := vx_own hat' (vx_isRefq hU'.1) (vx_isRefq hN'.1) hU'.2.word hN'.2.word
  have hown' : s'.vm.findClass own = some m.cls := by rw [hvm]; exact hown
  have hins : (Cond.instantiable cls 6).before args s' = true := h _ (by simp [Bundle.ownAtoms])
  obtain ⟨vm₁, cX, kX, hfX, hkX, -, -, X₁, st1⟩ := Y.newCold hexec (own := own) (C := cls) (index := ik) (n := 6) hown' hk' hins hini'
    (g := F0 m pc ls rest) rfl (by rw [hb]; exact d0) (Nat.le_refl _) (Nat.le_refl _)
  generalize hT1 : (T.setVm vm₁).pushCell { cls := cX, slots := kX.instanceTypes.map defaultValue, vm := .none } = T1 at X₁ st1
  have hcat : (Value.ref T.heap.size).category = 1 := rfl
  have hcellA : T1.heap[T.heap.size]? = some (freshCell cX kX) := by rw [← hT1]; exact State.heap_pushCell_size _ _
  have d3' : decode c.code (pc + 3) = .ok (.dup, 1) := by rw [hb]; exact d3
  have d4' : decode c.code (pc + 4) = .ok (.ldc is, 2) := by rw [hb]; exact d4
  have hstr' : vk_R own is text sa s' := vk_R.warm hW0 hstr
  obtain ⟨U, hsteps, hrun, hend, hW, hsame, ce, hce, hO⟩ := X₁.ctorThrowS hexec htr (own := own) (cls := cls) (names := names) (ic := ic) hown' hcls hnames h (fun x hx => nomatch hx) hfX hkX hcellA (by rw [hhp, hT]; exact Nat.le_refl _) (msg := .ref sa) rfl
    (g := { method := m, pc := pc + 6, locals := ls, stack := .ref sa :: .ref T.heap.size :: .ref T.heap.size :: rest, locked := none }) rfl hsize rfl rfl (rest := rest) rfl
    (by rw [hb]; exact d6) (by rw [hb]; exact d9) hout hRframes (by simp only [List.map_cons, List.sum_cons, hcat]; omega) hlocks
  obtain ⟨f1, f2⟩ := vx_frame hsame
  rw [hhp] at f1 f2
  have hWs : s.WarmedH U.vm := State.WarmedH.trans hW0 hW
  have hcl : s.vm.findClass cls = some ce.cls := by
    have h9 := hO.cls
    rw [hvm] at h9
    exact h9
  have hall : s.sameButNew ({ U with vm := s.vm } : State) locs mc ms := by
    subst hA
    obtain ⟨e1, e2⟩ := hsame
    rw [State.setFrames_setFrames] at e1
    have h2 : (T.setVm s.vm).sameButNew ({ U with vm := s.vm } : State) [] (0 + 1) (0 + 6) := ⟨e1, e2⟩
    have h3 := X.same.trans h2
    rw [List.append_nil] at h3
    exact h3.mono hc hs
  refine ⟨U, ?_, .threw T.heap.size, hrun, hend, Or.inr ⟨T.heap.size, rfl, cls, ce, locs, hx U hWs.alike f1 (fun q hq => f2 q hq (fun z hz => nomatch hz)), hce, hO.vm, hcl, hWs, hall, hf⟩⟩
  refine st1 _ ?_
  show Steps p.tables e below (T1.setTop { method := m, pc := pc + 3, locals := ls, stack := .ref T.heap.size :: rest, locked := none }) _
  jvm_step X₁.here [X₁.here.top, hexec, d3', Value.category]
  exact X₁.ldcString hexec (own := own) (text := text) (index := is) (a := sa) hown' hstr'.1 hstr'.2
    (g := { method := m, pc := pc + 4, locals := ls, stack := .ref T.heap.size :: .ref T.heap.size :: rest, locked := none }) rfl d4' _ hsteps
/-- 'throw new E("text")', the text by a wide index -/
theorem vx_throwSW {cc : ByteArray} {pc : Nat} (hexec : p.tables.exec = Jvm.exec) (hb : c.code = cc) (hl : l.stackTraces = false) {own cls text : String} {names : List String} {ik is ic mc ms sa : Nat} {A : Nat → Prop}
    (hown : s.vm.findClass own = some m.cls) (hcls : Bundle.fit cls = true) (hnames : ∀ n ∈ names, Bundle.fit n = true)
    (hk : (Cond.classLink own ik cls).before args s = true) (hini : (Cond.initialized cls).before args s = true) (hstr : vk_R own is text sa s) (hat : ∀ w ∈ vx_atS own ic cls names, w.before args s = true)
    (hgood : ∀ w ∈ Cond.classLink own ik cls :: Cond.initialized cls :: vx_atS own ic cls names, vx_ot w = true)
    (hU : vx_Zq Bundle.tN "UNASSIGNED_STACK" Bundle.steD A s s.heap) (hN : vx_Zq Bundle.tN "SUPPRESSED_SENTINEL" Bundle.listD A s s.heap) (hS : va_S A s.heap H locs) (hsize : ls.size = c.maxLocals)
    (d0 : decode cc pc = .ok (.new ik, 3)) (d3 : decode cc (pc + 3) = .ok (.dup, 1)) (d4 : decode cc (pc + 4) = .ok (.ldc_w is, 3)) (d7 : decode cc (pc + 7) = .ok (.invokespecial ic, 3)) (d10 : decode cc (pc + 10) = .ok (.athrow, 1))
    (hout : ∀ x ∈ c.exceptionTable.toList, covers x (pc + 10) = false)
    (hRframes : names.length + 3 < R.frames) (hRlocals : (rest.map fun v => v.category).sum + (13 * (names.length + 1) + 43) ≤ R.locals) (hRcells : cells + 1 ≤ R.cells) (hRslots : slots + 6 ≤ R.slots) (hlocks : meth.locks = false)
    (hx : ∀ t : State, s.vm.Alike t.vm → H.size ≤ t.heap.size → (∀ q : Nat, q < H.size → t.heap[q]? = H[q]?) → XC cls s t)
    (hf : ∀ z ∈ locs, free z.base) (hc : cells + 1 ≤ mc) (hs : slots + 6 ≤ ms) :
    W p l e R s m args below meth c H locs cells slots (vx_MQ below Qc XC args s mc ms free) (F0 m pc ls rest) := by
  intro T hT X
  have htr : e.platform.stackTraces = false := (show e.platform.stackTraces = l.stackTraces by rw [X.admits.platform]).trans hl
  have Y := vx_rebase X (R' := { frames := R.frames, locals := R.locals, cells := 1, slots := 6 }) (Nat.le_refl _) (Nat.le_refl _) hRcells hRslots
  obtain ⟨s', hA⟩ : ∃ z, z = (T.setVm s.vm).setFrames (.invoking m args :: below) := ⟨_, rfl⟩
  rw [← hA] at Y
  have hvm : s'.vm = s.vm := by rw [hA]; rfl
  have hhp : s'.heap = H := by rw [hA]; exact hT
  have hW0 : s.WarmedH s'.vm := by rw [hvm]; exact State.WarmedH.refl s
  have hat' : ∀ w ∈ vx_atS own ic cls names, w.before args s' = true := fun w hw => vx_ot_at hW0 hvm.symm (hgood w (List.mem_cons_of_mem _ (List.mem_cons_of_mem _ hw))) (hat w hw)
  have hk' : (Cond.classLink own ik cls).before args s' = true := vx_ot_at hW0 hvm.symm (hgood _ List.mem_cons_self) hk
  have hini' : (Cond.initialized cls).before args s' = true := vx_ot_at hW0 hvm.symm (hgood _ (List.mem_cons_of_mem _ List.mem_cons_self)) hini
  have hU' : vx_Zq Bundle.tN "UNASSIGNED_STACK" Bundle.steD A s' s'.heap := by rw [hhp]; exact vx_Zq.moved hW0.alike (hU.kept hS.2.1)
  have hN' : vx_Zq Bundle.tN "SUPPRESSED_SENTINEL" Bundle.listD A s' s'.heap := by rw [hhp]; exact vx_Zq.moved hW0.alike (hN.kept hS.2.1)
  have h : ∀ w ∈ Bundle.ownAtoms own ic cls names, w.before args s' = true := vx_own hat' (vx_isRefq hU'.1) (vx_isRefq hN'.1) hU'.2.word hN'.2.word
  have hown' : s'.vm.findClass own = some m.cls := by rw [hvm]; exact hown
  have hins : (Cond.instantiable cls 6).before args s' = true := h _ (by simp [Bundle.ownAtoms])
  obtain ⟨vm₁, cX, kX, hfX, hkX, -, -, X₁, st1⟩ := Y.newCold hexec (own := own) (C := cls) (index := ik) (n := 6) hown' hk' hins hini'
    (g := F0 m pc ls rest) rfl (by rw [hb]; exact d0) (Nat.le_refl _) (Nat.le_refl _)
  generalize hT1 : (T.setVm vm₁).pushCell { cls := cX, slots := kX.instanceTypes.map defaultValue, vm := .none } = T1 at X₁ st1
  have hcat : (Value.ref T.heap.size).category = 1 := rfl
  have hcellA : T1.heap[T.heap.size]? = some (freshCell cX kX) := by rw [← hT1]; exact State.heap_pushCell_size _ _
  have d3' : decode c.code (pc + 3) = .ok (.dup, 1) := by rw [hb]; exact d3
  have d4' : decode c.code (pc + 4) = .ok (.ldc_w is, 3) := by rw [hb]; exact d4
  have hstr' : vk_R own is text sa s' := vk_R.warm hW0 hstr
  obtain ⟨U, hsteps, hrun, hend, hW, hsame, ce, hce, hO⟩ := X₁.ctorThrowS hexec htr (own := own) (cls := cls) (names := names) (ic := ic) hown' hcls hnames h (fun x hx => nomatch hx) hfX hkX hcellA (by rw [hhp, hT]; exact Nat.le_refl _) (msg := .ref sa) rfl
    (g := { method := m, pc := pc + 7, locals := ls, stack := .ref sa :: .ref T.heap.size :: .ref T.heap.size :: rest, locked := none }) rfl hsize rfl rfl (rest := rest) rfl
    (by rw [hb]; exact d7) (by rw [hb]; exact d10) hout hRframes (by simp only [List.map_cons, List.sum_cons, hcat]; omega) hlocks
  obtain ⟨f1, f2⟩ := vx_frame hsame
  rw [hhp] at f1 f2
  have hWs : s.WarmedH U.vm := State.WarmedH.trans hW0 hW
  have hcl : s.vm.findClass cls = some ce.cls := by
    have h9 := hO.cls
    rw [hvm] at h9
    exact h9
  have hall : s.sameButNew ({ U with vm := s.vm } : State) locs mc ms := by
    subst hA
    obtain ⟨e1, e2⟩ := hsame
    rw [State.setFrames_setFrames] at e1
    have h2 : (T.setVm s.vm).sameButNew ({ U with vm := s.vm } : State) [] (0 + 1) (0 + 6) := ⟨e1, e2⟩
    have h3 := X.same.trans h2
    rw [List.append_nil] at h3
    exact h3.mono hc hs
  refine ⟨U, ?_, .threw T.heap.size, hrun, hend, Or.inr ⟨T.heap.size, rfl, cls, ce, locs, hx U hWs.alike f1 (fun q hq => f2 q hq (fun z hz => nomatch hz)), hce, hO.vm, hcl, hWs, hall, hf⟩⟩
  refine st1 _ ?_
  show Steps p.tables e below (T1.setTop { method := m, pc := pc + 3, locals := ls, stack := .ref T.heap.size :: rest, locked := none }) _
  jvm_step X₁.here [X₁.here.top, hexec, d3', Value.category]
  exact X₁.ldcStringW hexec (own := own) (text := text) (index := is) (a := sa) hown' hstr'.1 hstr'.2
    (g := { method := m, pc := pc + 4, locals := ls, stack := .ref T.heap.size :: .ref T.heap.size :: rest, locked := none }) rfl d4' _ hsteps
end Ends
section Bodies
variable {l : Launch}
theorem vx_ofW {y : MethodName} {ws ws' : List Cond} {rm : Room} {Pc : Array Value → State → Prop} {Qc : Array Value → State → Outcome → State → Prop} {XC : String → State → State → Prop} {mc ms : Nat} {free : Addr → Prop} {cc : ByteArray} {maxL : Nat} {ret : Option FieldType}
    (hy : plainName y.cls = true) (hw : ws = Cond.code y cc maxL ret :: ws')
    (body : ∀ p e s m args below meth c s₁, BodyLoose p l y (headSpec ws rm) cc maxL ret e s m args below meth c s₁ → c.maxLocals = maxL → (∀ x ∈ c.exceptionTable.toList, False) → Pc args s →
      W p l e (headSpec ws rm).room s m args below meth c s.heap [] 0 0 (vx_MQ below Qc XC args s mc ms free) (entryFrame m args maxL)) : vx_Met l y ws rm Pc Qc XC mc ms free := by
  refine MetFree.of_bodyS (code := cc) (maxLocals := maxL) (ret := ret) hy ?_ ?_
  · intro args s m h hn
    obtain ⟨meth, c, h1, h2, h3, h4, h5, h6, -, -⟩ := Cond.code_spec hn (atoms_spec (ws := ws) h _ (by rw [hw]; exact List.mem_cons_self))
    exact ⟨meth, c, h1, h2, h3, h4, h5, h6⟩
  · intro p e s m args below meth c s₁ B hml hP _
    have hh0 : s₁.heap = s.heap := by rw [B.state]; rfl
    have ht : ∀ x ∈ c.exceptionTable.toList, False := by
      obtain ⟨meth9, c9, h1, h2, -, -, -, -, h7, -⟩ := Cond.code_spec B.named (atoms_spec (ws := ws) B.pre _ (by rw [hw]; exact List.mem_cons_self))
      cases Option.some.inj (h1.symm.trans B.method)
      cases Option.some.inj (h2.symm.trans (Stand.of_body B).code)
      intro x hx
      rw [Array.isEmpty_iff.mp h7] at hx
      cases hx
    obtain ⟨t, a1, o, b1, b2, b3⟩ := body p e s m args below meth c s₁ B hml ht hP s₁ hh0 (Stand.of_body B)
    exact ⟨t, o, a1, b1, b2, b3⟩
/-- the table of a body with handlers -/
theorem vx_table {p : Program} {x y : MethodName} {S : Spec} {cc bytes : ByteArray} {maxL maxL' : Nat} {ret ret' : Option FieldType} {e : Env} {s s₁ : State} {m : MethodId} {args : Array Value} {below : List Frame} {meth : Method} {c : Code} {hh : List (Nat × Nat × Nat × Nat)}
    (B : BodyLoose p l y S cc maxL ret e s m args below meth c s₁) (h : (Cond.codeWith y bytes maxL' ret' hh).before args s = true) : c.exceptionTable.toList = tableOf hh := by
  obtain ⟨m9, meth9, c9, hn9, h1, h2, -, -, h6, -⟩ := Cond.codeWith_spec h
  cases Option.some.inj (hn9.symm.trans B.named)
  cases Option.some.inj (h1.symm.trans B.method)
  cases Option.some.inj (h2.symm.trans (Stand.of_body B).code)
  rw [← h6, table_eq]
end Bodies
end VXA
/-! ===== END ===== -/
/-! ===== BEGIN a static call of a method with an exception table ===== -/
section VXS
variable {p : Program} {l : Launch} {e : Env} {R : Room} {s : State} {m : MethodId} {args : Array Value} {below : List Frame} {meth : Method} {c : Code} {T : State} {H : Heap} {locs : List Loc} {cells slots : Nat}
abbrev vx_CSW (R : Room) (s : State) (args : Array Value) (own : String) (index : Nat) (y : MethodName) (bytes : ByteArray) (maxL : Nat) (ret : Option FieldType) (hh : List (Nat × Nat × Nat × Nat)) (ws : List Cond) (rm : Room) (mc ms n : Nat) : Prop :=
  (rm.cells = mc ∧ rm.slots = ms ∧ rm.frames + 1 ≤ R.frames ∧ 8 + (maxL + 11) + rm.locals ≤ R.locals ∧ (∀ w ∈ ws, ∀ (a' : Array Value) (U : State), s.WarmedH U.vm → w.before a' U = true) ∧ Cond.codeWith y bytes maxL ret hh ∈ ws) ∧
  (Cond.codeWith y bytes maxL ret hh).before args s = true ∧ (Cond.initialized y.cls).before args s = true ∧ (y.cls ≠ "java/lang/invoke/MethodHandle" ∧ y.cls ≠ "java/lang/invoke/VarHandle") ∧
  (∀ sig, parseMethodDescriptor y.desc = some sig → n = sig.parameters.length) ∧ (Cond.methodLink own index y).before args s = true ∧ (Cond.static y).before args s = true
theorem vx_cwSW {own : String} {index maxL mc ms : Nat} {y : MethodName} {bytes : ByteArray} {ret : Option FieldType} {hh : List (Nat × Nat × Nat × Nat)} {Ts ws ws' : List Cond} {rm : Room} (n : Nat) (ht : ∀ w ∈ Ts, w.before args s = true) (hT : GoodIn Ts (va_wsS own index y ws)) (hw : ws = Cond.codeWith y bytes maxL ret hh :: ws') (hrc : rm.cells = mc) (hrs : rm.slots = ms)
    (hd : y.cls ≠ "java/lang/invoke/MethodHandle" ∧ y.cls ≠ "java/lang/invoke/VarHandle" ∧ (parseMethodDescriptor y.desc).map (fun d => d.parameters.length) = some n) (hR : rm.frames + 1 ≤ R.frames ∧ 8 + (maxL + 11) + rm.locals ≤ R.locals) :
    vx_CSW R s args own index y bytes maxL ret hh ws rm mc ms n := by
  have ok : ∀ w ∈ va_wsS own index y ws, w.before args s = true := fun w h => ht w (hT w h).1
  have hG : GoodIn Ts ws := fun w h => hT w (by unfold va_wsS; exact List.mem_append_right _ h)
  have hc : Cond.codeWith y bytes maxL ret hh ∈ ws := by rw [hw]; exact List.mem_cons_self
  refine ⟨⟨hrc, hrs, hR.1, hR.2, pay_in ht hG, hc⟩, ht _ (hG _ hc).1, ok _ (by simp [va_wsS]), ⟨hd.1, hd.2.1⟩, fun sig h => ?_, ok _ (by simp [va_wsS]), ok _ (by simp [va_wsS])⟩
  have h2 := hd.2.2
  rw [h] at h2
  exact (Option.some.inj h2).symm
theorem vx_callSW (X : Stand p l e R s m args below meth c T locs cells slots) (hexec : p.tables.exec = Jvm.exec) {own : String} {index : Nat} {y : MethodName} {bytes : ByteArray} {maxL : Nat} {ret : Option FieldType} {hh : List (Nat × Nat × Nat × Nat)}
    (hown : s.vm.findClass own = some m.cls) (hlink : (Cond.methodLink own index y).before args s = true) (hstat : (Cond.static y).before args s = true) (hinit : (Cond.initialized y.cls).before args s = true)
    (hcode : (Cond.codeWith y bytes maxL ret hh).before args s = true) (hy : y.cls ≠ "java/lang/invoke/MethodHandle" ∧ y.cls ≠ "java/lang/invoke/VarHandle")
    {W9 : Nat} {Pre : Pt → Array Value → Prop} {Post : Pt → Array Value → Option Value → Pt → Prop} (hK : Back l R p e below s args y 3 W9 Pre Post)
    {g : JFrame} (hg : g.method = m) (hsize : g.locals.size = c.maxLocals) {argsL rest : List Value} (hlen : ∀ sig, parseMethodDescriptor y.desc = some sig → argsL.length = sig.parameters.length)
    (hstack : g.stack = argsL.reverse ++ rest) (hW : 2 * g.monitorRoom + (rest.map fun v => v.category).sum ≤ W9) (hdg : decode c.code g.pc = .ok (.invokestatic index, 3))
    (hpre : ∀ vm₁, s.WarmedH vm₁ → Pre ⟨T.setVm vm₁, locs, cells, slots⟩ argsL.toArray) :
    ∃ (v : Option Value) (vm₁ : Vm) (B : Pt), s.WarmedH vm₁ ∧ Stand p l e R s m args below meth c B.U B.locs B.cells B.slots ∧ Post ⟨T.setVm vm₁, locs, cells, slots⟩ argsL.toArray v B ∧
      ∀ target, Steps p.tables e below (B.U.setTop { g with pc := g.pc + 3, stack := v.toList ++ rest }) target → Steps p.tables e below (T.setTop g) target := by
  obtain ⟨mk, methM, cM, hnamed, hmethM, -, -, -, -, -, -, hsigM⟩ := Cond.codeWith_spec hcode
  have hstatic : methM.isStatic = true := Cond.static_spec hnamed hmethM hstat
  obtain ⟨kP, hkP, -⟩ := className_of_methodNamed hnamed
  have hinitP : kP.init = .initialized := Cond.initialized_spec (findClass_of_methodNamed hnamed) hkP hinit
  obtain ⟨vm₁, X₁, hstep₁⟩ := X.invokestatic hexec hown hlink hnamed hmethM hstatic hkP hinitP hy (g := g) hg (argsL := argsL) (rest := rest) (hlen _ hsigM) hstack hdg
  obtain ⟨v, B, X', hpost, hsteps⟩ := hK m meth c ⟨T.setVm vm₁, locs, cells, slots⟩ { g with stack := rest } (.invokestatic index) mk argsL.toArray X₁ hg hsize hdg hW (X₁.named hnamed) (hpre vm₁ X₁.warmed)
  exact ⟨v, vm₁, B, X₁.warmed, X', hpost, fun target h => hstep₁ _ fun acts => by rw [doInvoke_state]; exact hsteps.trans h⟩
theorem vx_runSW {y : MethodName} {bytes cc : ByteArray} {maxL nL mc ms n index : Nat} {ret : Option FieldType} {hh : List (Nat × Nat × Nat × Nat)} {ws : List Cond} {rm : Room} {Pc : Array Value → State → Prop} {Qc : Array Value → State → Outcome → State → Prop} {free : Addr → Prop} {Ts : List Cond} {own : String} {As rest : List Value} {g : JFrame}
    (S : CallFix p m c cc nL s args Ts own) (hM : Met l y ws rm Pc Qc mc ms free) (cw : vx_CSW R s args own index y bytes maxL ret hh ws rm mc ms n) (hp : PreS s H Pc As)
    (hg : g.method = m) (hn : As.length = n) (hsize : g.locals.size = nL) (hstack : g.stack = As.reverse ++ rest) (hW : 2 * g.monitorRoom + (rest.map fun v => v.category).sum ≤ 8) (hdg : decode cc g.pc = .ok (.invokestatic index, 3)) (hf : cells + mc ≤ R.cells ∧ slots + ms ≤ R.slots) :
    va_Run p l e R s m args below meth c H locs cells slots mc ms g rest (Qc As.toArray) (free) := by
  obtain ⟨⟨hrc, hrs, hfr, hlo, hws, hcw⟩, hcode, hini, hy, hlen, hl, hstt⟩ := cw
  have hK : Back l R p e below s args y 3 8 (PreOf R mc ms Pc) (PostOf Qc mc ms free) := va_backW (hh := hh) (bytes := bytes) (maxL := maxL) (ret := ret) hM hp.1 hrc hrs hfr hlo hws hcw (fun a' U hW => word_at hW (Or.inl (by first | rfl | simp [Cond.onTables, Cond.keeps, Cond.steady])) hini)
  obtain ⟨hx, hb, hml, ho, -⟩ := S
  intro T hT X
  obtain ⟨v, vm₁, ⟨U', l2, c2, s2⟩, hW₁, X', ⟨g', mk, t, L, e1, e2, hq, h1, hL, h2, h3⟩, st⟩ := vx_callSW X hx (hh := hh) (bytes := bytes) (maxL := maxL) (ret := ret) ho hl hstt hini hcode hy hK hg (hsize.trans hml.symm) (argsL := As) (rest := rest) (fun sig h => hn.trans (hlen sig h)) hstack hW (by rw [hb]; exact hdg)
    (fun vm₁ hW₁ => ⟨hf.1, hf.2, hp.2 (T.setVm vm₁) hT hW₁⟩)
  dsimp only [Pt.U, Pt.locs, Pt.cells, Pt.slots] at X' e1 e2 h1 h2 h3 st
  subst h1; subst h2; subst h3
  exact ⟨v, (T.setVm vm₁).calling g' mk As.toArray, t, U', L, hT, X', hL, e1, e2, hq, st⟩
/-- not caught here, past rows that name other classes: it goes on to the caller -/
theorem vx_outP {p : Program} {l : Launch} {e : Env} {R : Room} {s : State} {m : MethodId} {args : Array Value} {below : List Frame} {meth : Method} {c : Code} {H : Heap} {locs : List Loc} {cells slots : Nat} {free : Addr → Prop} {ls : Array Slot} {rest : List Value} {Qc : Array Value → State → Outcome → State → Prop} {XC : String → State → State → Prop}
    {pc : Nat} {own E : String} {ce : Cell} {q : Addr} {mc ms : Nat} (hown : s.vm.findClass own = some m.cls) (hlocks : meth.locks = false)
    (hpass : ∀ z ∈ c.exceptionTable.toList, covers z pc = false ∨ (z.catchType ≠ 0 ∧ ∃ nm : String, (Cond.classLink own z.catchType nm).before args s = true ∧ va_Nc E nm s)) (hcell : H[q]? = some ce) (hv : ce.vm = .none) (hcl : s.vm.findClass E = some ce.cls)
    (hx : ∀ t : State, t.heap = H → s.vm.Alike t.vm → XC E s t) (hf : ∀ z ∈ locs, free z.base) (hc : cells ≤ mc) (hs : slots ≤ ms) :
    vx_W p l e R s m args below meth c H locs cells slots (vx_MQ below Qc XC args s mc ms free) (F0 m pc ls rest) q := by
  intro T hT X
  have hpl : e.platform.magicAccessors = ({} : Platform).magicAccessors := by rw [X.admits.platform]
  obtain ⟨vm', hW', X', st⟩ := X.outThrough hlocks q (g := F0 m pc ls rest) rfl rfl rfl (cell := ce) (by rw [hT]; exact hcell) (by rw [hv]; rfl)
    (by obtain ⟨k9, h9, -⟩ := Vm.findClass_spec hcl; exact ⟨k9, h9⟩) (fun z hz => by
      rcases hpass z hz with h | ⟨hz0, nm, hl1, hn1⟩
      · exact Or.inl h
      · obtain ⟨c6, hc6, hcl6⟩ := Cond.classLink_spec hown hl1 e.platform hpl
        obtain ⟨a8, b8, h1, h2, h3⟩ := hn1
        cases Option.some.inj (h1.symm.trans hcl)
        cases Option.some.inj (h2.symm.trans hc6)
        exact Or.inr ⟨hz0, _, hcl6, h3⟩)
  obtain ⟨g₀, hfr⟩ := X'.frames_eq
  have hcell9 : ((T.setVm vm').setFrames (.throwing q :: below)).heap[q]? = some ce := by
    show T.heap[q]? = some ce
    rw [hT]; exact hcell
  have hend : Ended ((T.setVm vm').setFrames (.throwing q :: below)) below (.threw q) := State.frames_setFrames _ (State.cur_lt_of_frames hfr)
  refine ⟨(T.setVm vm').setFrames (.throwing q :: below), ?_, .threw q, X'.here.running, hend, Or.inr ⟨q, rfl, E, ce, locs, hx _ hT (X'.ends _).1.alike, hcell9, hv, hcl, (X'.ends _).1, (X'.ends _).2.mono hc hs, hf⟩⟩
  rw [X.pushThrowing_eq]
  exact st
/-- a thing of a world lies in the heap -/
theorem vx_lt {D : va_G} {cl : List vw_C} {ws : va_W} {H1 : Heap} (h : va_P D cl ws H1) {k : Nat} {q : Nat × va_E} (hk : ws[k]? = some q) : q.1 < H1.size := (h k q hk).lt
end VXS
/-! ===== END ===== -/
/-! ===== BEGIN methods with a table of their own: called by a name, returning or throwing ===== -/
section VXH
/-! vx_backW, vx_callVX, vx_callSX, vx_callVW, vx_runVW, vx_runVX, vx_runSX, vx_ofWH follow the same proofs as their sisters above (Free/Laws.lean, Shelf42/LK1.lean); vx_outP calls Shelf42/NT130.lean (outThrough). -/
section
variable {l : Launch} {R : Room} {p : Program} {e : Env} {below : List Frame} {s : State} {sargs : Array Value} {y : MethodName} {len W9 : Nat}
theorem vx_backW {ws : List Cond} {rm : Room} {Pc : Array Value → State → Prop} {Qc : Array Value → State → Outcome → State → Prop} {XC : String → State → State → Prop} {mc ms : Nat} {free : Addr → Prop} {bytes : ByteArray} {maxL : Nat} {ret : Option FieldType} {hh : List (Nat × Nat × Nat × Nat)}
    (hM : vx_Met l y ws rm Pc Qc XC mc ms free) (hblind : FrameBlind Pc) (hrc : rm.cells = mc) (hrs : rm.slots = ms)
    (hframes : rm.frames + 1 ≤ R.frames) (hlocals : W9 + (maxL + 11) + rm.locals ≤ R.locals)
    (hws : ∀ w ∈ ws, ∀ a' U, s.WarmedH U.vm → w.before a' U = true) (hcode : Cond.codeWith y bytes maxL ret hh ∈ ws) (hinit : ∀ a' U, s.WarmedH U.vm → (Cond.initialized y.cls).before a' U = true) :
    vx_Back l R p e below s sargs y len W9 (PreOf R mc ms Pc) (PostOf Qc mc ms free) (vx_Post XC mc ms free) := by
  intro m meth c A g ig mk a X hg hsize hdg hW hn hp
  have h1 : (headSpec ws rm).pre.before a A.U = true := atoms_intro fun w hw => hws w hw _ _ X.warmed
  have h2 : (Cond.codeWith y bytes maxL ret hh).before a A.U = true := hws _ hcode _ _ X.warmed
  have h3 : (Cond.initialized y.cls).before a A.U = true := hinit _ _ X.warmed
  have h4 : A.cells + (headSpec ws rm).room.cells ≤ R.cells := by rw [show (headSpec ws rm).room.cells = mc from hrc]; exact hp.1
  have h5 : A.slots + (headSpec ws rm).room.slots ≤ R.slots := by rw [show (headSpec ws rm).room.slots = ms from hrs]; exact hp.2.1
  have hPc : Pc a (A.U.calling g mk a) := hblind _ _ _ _ hp.2.2
  obtain ⟨U, Ls, c0, s0⟩ := A
  dsimp only [Pt.U, Pt.locs, Pt.cells, Pt.slots] at h1 h2 h3 h4 h5 X hn hPc ⊢
  obtain ⟨m9, methY, cY, hn9, hmY, hcY, -, hlY, -⟩ := Cond.codeWith_spec h2
  cases Option.some.inj (hn9.symm.trans hn)
  obtain ⟨kY, hkY, -⟩ := className_of_methodNamed hn
  have hinitY : kY.init = .initialized := Cond.initialized_spec (findClass_of_methodNamed hn) hkY h3
  have h : At U g.method c below := by rw [hg]; exact X.here
  have hlocals9 : W9 + (maxL + 11) + (headSpec ws rm).room.locals ≤ R.locals := hlocals
  have happ : (headSpec ws rm).appliesLoose y e.platform (U.calling g mk a) = true :=
    Spec.appliesLoose_calling (g := g) h hdg hn hkY hinitY
      (X.room_calling (g := g) (R' := (headSpec ws rm).room) hsize hmY hcY hframes (by rw [hlY]; omega) h4 h5) h1
  obtain ⟨mid, hmid⟩ := h.above
  have hfr : (U.setTop g).frames = (.java g :: mid) ++ below := by rw [State.frames_setTop' g h.top, hmid]; rfl
  obtain ⟨o, s₂, hsteps, -, hend, hq⟩ := Steps.callFree hM p X.admits X.cas X.clock (acts := []) hfr happ hPc trivial
  have hq' : vx_Q Qc XC mc ms free a (U.calling g mk a) o s₂ := hq
  rw [State.frames_setTop' g h.top] at hend
  obtain ⟨g₀, hg0⟩ := Option.isSome_iff_exists.mp h.top
  obtain ⟨r, hr⟩ := State.topJava?_eq_some.mp hg0
  have hr' : (({ U with heap := s₂.heap, slotsUsed := s₂.slotsUsed } : State).setVm s₂.vm).frames = .java g₀ :: r := hr
  rcases hq' with ⟨hqc, L, hfe, hL⟩ | ⟨q, rfl, E, ce, L, hx, hce, hcv, hcl, hW₂, hsm, hL⟩
  · obtain ⟨⟨v, rfl⟩, hW₂, e2, q2, q3, q4, q5, q6⟩ := id hfe
    have e3 : s₂ = ({ (U.calling g mk a).setFrames s₂.frames with heap := s₂.heap, slotsUsed := s₂.slotsUsed } : State).setVm s₂.vm := by
      have : s₂ = ({ s₂ with vm := (U.calling g mk a).vm } : State).setVm s₂.vm := rfl
      rw [e2] at this
      exact this
    obtain ⟨c₂, i₂, len₂, hc₂, hd₂, hf₂⟩ := hend
    have hW' : U.WarmedH s₂.vm := hW₂
    have hcc : c₂ = c := by
      have h1 : s₂.code? g.method = U.code? g.method := by
        rw [State.code?_eq, State.code?_eq, hW'.alike.method?]
      exact Option.some.inj (hc₂.symm.trans (h1.trans h.code))
    subst hcc
    have hlen : len₂ = len := by rw [hdg] at hd₂; cases hd₂; rfl
    subst hlen
    have hs₂ : s₂ = (({ U with heap := s₂.heap, slotsUsed := s₂.slotsUsed } : State).setVm s₂.vm).setTop { g with pc := g.pc + len₂, stack := v.toList ++ g.stack } := by
      refine e3.trans ?_
      rw [hf₂, State.calling_eq h.top, State.setFrames_setFrames, State.setTop_of_frames _ hr', hr]
      rfl
    have hsame : U.sameButNew ({ U with heap := s₂.heap, slotsUsed := s₂.slotsUsed } : State) L mc ms := by
      refine ⟨?_, q2, q3, q4, q5, q6⟩
      obtain ⟨t, ht, -⟩ := State.frames_cons hr
      show ({ U with heap := s₂.heap, slotsUsed := s₂.slotsUsed } : State) = { U.setFrames U.frames with heap := s₂.heap, slotsUsed := s₂.slotsUsed }
      rw [State.setFrames_self ht]
    subst hg
    refine Or.inl ⟨v, ⟨(({ U with heap := s₂.heap, slotsUsed := s₂.slotsUsed } : State).setVm s₂.vm), Ls ++ L, c0 + mc, s0 + ms⟩,
      ⟨X.admits, X.cas, X.clock, X.frames, X.room, X.hears, X.method, X.code, (X.here.setHeapUsed s₂.heap s₂.slotsUsed).setVm hW'.alike, X.tail, State.WarmedH.trans X.warmed hW', X.limits, X.bytes, X.same.trans (hsame.setVm s.vm)⟩,
      ⟨g, mk, s₂, L, rfl, rfl, hqc, rfl, hL, rfl, rfl⟩, ?_⟩
    show Steps p.tables e below _ ((({ U with heap := s₂.heap, slotsUsed := s₂.slotsUsed } : State).setVm s₂.vm).setTop { g with pc := g.pc + len₂, stack := v.toList ++ g.stack })
    rw [← hs₂]
    exact hsteps
  · obtain ⟨e2, q2, q3, q4, q5, q6⟩ := id hsm
    have e3 : s₂ = ({ (U.calling g mk a).setFrames s₂.frames with heap := s₂.heap, slotsUsed := s₂.slotsUsed } : State).setVm s₂.vm := by
      have : s₂ = ({ s₂ with vm := (U.calling g mk a).vm } : State).setVm s₂.vm := rfl
      rw [e2] at this
      exact this
    have hf₂ : s₂.frames = .throwing q :: .java g :: U.frames.tail := hend
    have hW' : U.WarmedH s₂.vm := hW₂
    have hs₂ : s₂ = ((({ U with heap := s₂.heap, slotsUsed := s₂.slotsUsed } : State).setVm s₂.vm).setTop g).pushFrame (.throwing q) := by
      refine e3.trans ?_
      rw [hf₂, State.calling_eq h.top, State.setFrames_setFrames, State.pushFrame, State.frames_setTop _ hr', State.setTop_of_frames _ hr', State.setFrames_setFrames, hr]
      rfl
    have hsame : U.sameButNew ({ U with heap := s₂.heap, slotsUsed := s₂.slotsUsed } : State) L mc ms := by
      refine ⟨?_, q2, q3, q4, q5, q6⟩
      obtain ⟨t, ht, -⟩ := State.frames_cons hr
      show ({ U with heap := s₂.heap, slotsUsed := s₂.slotsUsed } : State) = { U.setFrames U.frames with heap := s₂.heap, slotsUsed := s₂.slotsUsed }
      rw [State.setFrames_self ht]
    subst hg
    refine Or.inr ⟨q, ⟨(({ U with heap := s₂.heap, slotsUsed := s₂.slotsUsed } : State).setVm s₂.vm), Ls ++ L, c0 + mc, s0 + ms⟩,
      ⟨X.admits, X.cas, X.clock, X.frames, X.room, X.hears, X.method, X.code, (X.here.setHeapUsed s₂.heap s₂.slotsUsed).setVm hW'.alike, X.tail, State.WarmedH.trans X.warmed hW', X.limits, X.bytes, X.same.trans (hsame.setVm s.vm)⟩,
      ⟨g, mk, s₂, L, E, ce, rfl, rfl, hx, hce, hcv, hcl, rfl, hL, rfl, rfl⟩, ?_⟩
    show Steps p.tables e below _ (((({ U with heap := s₂.heap, slotsUsed := s₂.slotsUsed } : State).setVm s₂.vm).setTop g).pushFrame (.throwing q))
    rw [← hs₂]
    exact hsteps
end
variable {p : Program} {l : Launch} {e : Env} {R : Room} {s : State} {m : MethodId} {args : Array Value} {below : List Frame} {meth : Method} {c : Code} {T : State} {H : Heap} {locs : List Loc} {cells slots : Nat}
theorem vx_callVX (X : Stand p l e R s m args below meth c T locs cells slots) (hexec : p.tables.exec = Jvm.exec) {own C : String} {index : Nat} {y : MethodName} {bytes : ByteArray} {maxL : Nat} {ret : Option FieldType} {hh : List (Nat × Nat × Nat × Nat)}
    (hown : s.vm.findClass own = some m.cls) (hlink : (Cond.methodLink own index y).before args s = true) (hinst : (Cond.instanceMethod y).before args s = true) (hsel : (Cond.selects C y y).before args s = true)
    (hcode : (Cond.codeWith y bytes maxL ret hh).before args s = true) (hy : y.cls ≠ "java/lang/invoke/MethodHandle" ∧ y.cls ≠ "java/lang/invoke/VarHandle")
    {W9 : Nat} {Pre : Pt → Array Value → Prop} {Post : Pt → Array Value → Option Value → Pt → Prop} {PostX : Pt → Array Value → Addr → Pt → Prop} (hK : vx_Back l R p e below s args y 3 W9 Pre Post PostX)
    {b : Addr} {cellB : Cell} (hcell : T.heap[b]? = some cellB) (hobj : cellB.vm.isStatics = false) (hcls : s.vm.findClass C = some cellB.cls)
    {g : JFrame} (hg : g.method = m) (hsize : g.locals.size = c.maxLocals) {argsL rest : List Value} (hlen : ∀ sig, parseMethodDescriptor y.desc = some sig → argsL.length = sig.parameters.length)
    (hstack : g.stack = argsL.reverse ++ .ref b :: rest) (hW : 2 * g.monitorRoom + (rest.map fun v => v.category).sum ≤ W9) (hdg : decode c.code g.pc = .ok (.invokevirtual index, 3))
    (hpre : ∀ vm₁, s.WarmedH vm₁ → Pre ⟨T.setVm vm₁, locs, cells, slots⟩ (Value.ref b :: argsL).toArray) :
    (∃ (v : Option Value) (vm₁ : Vm) (B : Pt), s.WarmedH vm₁ ∧ Stand p l e R s m args below meth c B.U B.locs B.cells B.slots ∧ Post ⟨T.setVm vm₁, locs, cells, slots⟩ (Value.ref b :: argsL).toArray v B ∧
      ∀ target, Steps p.tables e below (B.U.setTop { g with pc := g.pc + 3, stack := v.toList ++ rest }) target → Steps p.tables e below (T.setTop g) target) ∨
    (∃ (q : Addr) (vm₁ : Vm) (B : Pt), s.WarmedH vm₁ ∧ Stand p l e R s m args below meth c B.U B.locs B.cells B.slots ∧ PostX ⟨T.setVm vm₁, locs, cells, slots⟩ (Value.ref b :: argsL).toArray q B ∧
      Steps p.tables e below (T.setTop g) ((B.U.setTop { g with stack := rest }).pushFrame (.throwing q))) := by
  obtain ⟨mk, methM, hnamed, hmethM, hstM, habM⟩ := Cond.instanceMethod_spec hinst
  obtain ⟨m8, methM', cM, hn8, hmethM', -, -, -, -, -, -, hsigM⟩ := Cond.codeWith_spec hcode
  cases Option.some.inj (hn8.symm.trans hnamed)
  cases hmethM.symm.trans hmethM'
  obtain ⟨c2, r2, m2, q1, q2, q3, q4, kP, hkP, hkPi⟩ := Cond.selects_spec hsel
  cases hcls.symm.trans q1
  cases (State.methodFound?_of_named hnamed hy).symm.trans q2
  cases hnamed.symm.trans q3
  have hselP : selectMethod e.platform s.vm cellB.cls mk = .method mk := by rw [Launch.admits_selectMethod X.admits]; exact q4
  obtain ⟨vm₁, X₁, hstep₁⟩ := X.invokevirtual hexec hown hlink hnamed hmethM hstM hkP hkPi hy (a := b) (cell := cellB) hcell
    (fun z h => by rw [h] at hobj; cases hobj) hselP hmethM habM hkP hkPi (g := g) hg (argsL := argsL) (rest := rest) (hlen _ hsigM) hstack hdg
  rcases hK m meth c ⟨T.setVm vm₁, locs, cells, slots⟩ { g with stack := rest } (.invokevirtual index) mk (Value.ref b :: argsL).toArray X₁ hg hsize hdg hW (X₁.named hnamed) (hpre vm₁ X₁.warmed) with ⟨v, B, X', hpost, hsteps⟩ | ⟨q, B, X', hpost, hsteps⟩
  · exact Or.inl ⟨v, vm₁, B, X₁.warmed, X', hpost, fun target h => hstep₁ _ fun acts => by rw [doInvoke_state]; exact hsteps.trans h⟩
  · exact Or.inr ⟨q, vm₁, B, X₁.warmed, X', hpost, hstep₁ _ fun acts => by rw [doInvoke_state]; exact hsteps⟩
theorem vx_callSX (X : Stand p l e R s m args below meth c T locs cells slots) (hexec : p.tables.exec = Jvm.exec) {own : String} {index : Nat} {y : MethodName} {bytes : ByteArray} {maxL : Nat} {ret : Option FieldType} {hh : List (Nat × Nat × Nat × Nat)}
    (hown : s.vm.findClass own = some m.cls) (hlink : (Cond.methodLink own index y).before args s = true) (hstat : (Cond.static y).before args s = true) (hinit : (Cond.initialized y.cls).before args s = true)
    (hcode : (Cond.codeWith y bytes maxL ret hh).before args s = true) (hy : y.cls ≠ "java/lang/invoke/MethodHandle" ∧ y.cls ≠ "java/lang/invoke/VarHandle")
    {W9 : Nat} {Pre : Pt → Array Value → Prop} {Post : Pt → Array Value → Option Value → Pt → Prop} {PostX : Pt → Array Value → Addr → Pt → Prop} (hK : vx_Back l R p e below s args y 3 W9 Pre Post PostX)
    {g : JFrame} (hg : g.method = m) (hsize : g.locals.size = c.maxLocals) {argsL rest : List Value} (hlen : ∀ sig, parseMethodDescriptor y.desc = some sig → argsL.length = sig.parameters.length)
    (hstack : g.stack = argsL.reverse ++ rest) (hW : 2 * g.monitorRoom + (rest.map fun v => v.category).sum ≤ W9) (hdg : decode c.code g.pc = .ok (.invokestatic index, 3))
    (hpre : ∀ vm₁, s.WarmedH vm₁ → Pre ⟨T.setVm vm₁, locs, cells, slots⟩ argsL.toArray) :
    (∃ (v : Option Value) (vm₁ : Vm) (B : Pt), s.WarmedH vm₁ ∧ Stand p l e R s m args below meth c B.U B.locs B.cells B.slots ∧ Post ⟨T.setVm vm₁, locs, cells, slots⟩ argsL.toArray v B ∧
      ∀ target, Steps p.tables e below (B.U.setTop { g with pc := g.pc + 3, stack := v.toList ++ rest }) target → Steps p.tables e below (T.setTop g) target) ∨
    (∃ (q : Addr) (vm₁ : Vm) (B : Pt), s.WarmedH vm₁ ∧ Stand p l e R s m args below meth c B.U B.locs B.cells B.slots ∧ PostX ⟨T.setVm vm₁, locs, cells, slots⟩ argsL.toArray q B ∧
      Steps p.tables e below (T.setTop g) ((B.U.setTop { g with stack := rest }).pushFrame (.throwing q))) := by
  obtain ⟨mk, methM, cM, hnamed, hmethM, -, -, -, -, -, -, hsigM⟩ := Cond.codeWith_spec hcode
  have hstatic : methM.isStatic = true := Cond.static_spec hnamed hmethM hstat
  obtain ⟨kP, hkP, -⟩ := className_of_methodNamed hnamed
  have hinitP : kP.init = .initialized := Cond.initialized_spec (findClass_of_methodNamed hnamed) hkP hinit
  obtain ⟨vm₁, X₁, hstep₁⟩ := X.invokestatic hexec hown hlink hnamed hmethM hstatic hkP hinitP hy (g := g) hg (argsL := argsL) (rest := rest) (hlen _ hsigM) hstack hdg
  rcases hK m meth c ⟨T.setVm vm₁, locs, cells, slots⟩ { g with stack := rest } (.invokestatic index) mk argsL.toArray X₁ hg hsize hdg hW (X₁.named hnamed) (hpre vm₁ X₁.warmed) with ⟨v, B, X', hpost, hsteps⟩ | ⟨q, B, X', hpost, hsteps⟩
  · exact Or.inl ⟨v, vm₁, B, X₁.warmed, X', hpost, fun target h => hstep₁ _ fun acts => by rw [doInvoke_state]; exact hsteps.trans h⟩
  · exact Or.inr ⟨q, vm₁, B, X₁.warmed, X', hpost, hstep₁ _ fun acts => by rw [doInvoke_state]; exact hsteps⟩
theorem vx_callVW (X : Stand p l e R s m args below meth c T locs cells slots) (hexec : p.tables.exec = Jvm.exec) {own C : String} {index : Nat} {y : MethodName} {bytes : ByteArray} {maxL : Nat} {ret : Option FieldType} {hh : List (Nat × Nat × Nat × Nat)}
    (hown : s.vm.findClass own = some m.cls) (hlink : (Cond.methodLink own index y).before args s = true) (hinst : (Cond.instanceMethod y).before args s = true) (hsel : (Cond.selects C y y).before args s = true)
    (hcode : (Cond.codeWith y bytes maxL ret hh).before args s = true) (hy : y.cls ≠ "java/lang/invoke/MethodHandle" ∧ y.cls ≠ "java/lang/invoke/VarHandle")
    {W9 : Nat} {Pre : Pt → Array Value → Prop} {Post : Pt → Array Value → Option Value → Pt → Prop} (hK : Back l R p e below s args y 3 W9 Pre Post)
    {b : Addr} {cellB : Cell} (hcell : T.heap[b]? = some cellB) (hobj : cellB.vm.isStatics = false) (hcls : s.vm.findClass C = some cellB.cls)
    {g : JFrame} (hg : g.method = m) (hsize : g.locals.size = c.maxLocals) {argsL rest : List Value} (hlen : ∀ sig, parseMethodDescriptor y.desc = some sig → argsL.length = sig.parameters.length)
    (hstack : g.stack = argsL.reverse ++ .ref b :: rest) (hW : 2 * g.monitorRoom + (rest.map fun v => v.category).sum ≤ W9) (hdg : decode c.code g.pc = .ok (.invokevirtual index, 3))
    (hpre : ∀ vm₁, s.WarmedH vm₁ → Pre ⟨T.setVm vm₁, locs, cells, slots⟩ (Value.ref b :: argsL).toArray) :
    ∃ (v : Option Value) (vm₁ : Vm) (B : Pt), s.WarmedH vm₁ ∧ Stand p l e R s m args below meth c B.U B.locs B.cells B.slots ∧ Post ⟨T.setVm vm₁, locs, cells, slots⟩ (Value.ref b :: argsL).toArray v B ∧
      ∀ target, Steps p.tables e below (B.U.setTop { g with pc := g.pc + 3, stack := v.toList ++ rest }) target → Steps p.tables e below (T.setTop g) target := by
  obtain ⟨mk, methM, hnamed, hmethM, hstM, habM⟩ := Cond.instanceMethod_spec hinst
  obtain ⟨m8, methM', cM, hn8, hmethM', -, -, -, -, -, -, hsigM⟩ := Cond.codeWith_spec hcode
  cases Option.some.inj (hn8.symm.trans hnamed)
  cases hmethM.symm.trans hmethM'
  obtain ⟨c2, r2, m2, q1, q2, q3, q4, kP, hkP, hkPi⟩ := Cond.selects_spec hsel
  cases hcls.symm.trans q1
  cases (State.methodFound?_of_named hnamed hy).symm.trans q2
  cases hnamed.symm.trans q3
  have hselP : selectMethod e.platform s.vm cellB.cls mk = .method mk := by rw [Launch.admits_selectMethod X.admits]; exact q4
  obtain ⟨vm₁, X₁, hstep₁⟩ := X.invokevirtual hexec hown hlink hnamed hmethM hstM hkP hkPi hy (a := b) (cell := cellB) hcell
    (fun z h => by rw [h] at hobj; cases hobj) hselP hmethM habM hkP hkPi (g := g) hg (argsL := argsL) (rest := rest) (hlen _ hsigM) hstack hdg
  obtain ⟨v, B, X', hpost, hsteps⟩ := hK m meth c ⟨T.setVm vm₁, locs, cells, slots⟩ { g with stack := rest } (.invokevirtual index) mk (Value.ref b :: argsL).toArray X₁ hg hsize hdg hW (X₁.named hnamed) (hpre vm₁ X₁.warmed)
  exact ⟨v, vm₁, B, X₁.warmed, X', hpost, fun target h => hstep₁ _ fun acts => by rw [doInvoke_state]; exact hsteps.trans h⟩
abbrev vx_CVW (R : Room) (s : State) (args : Array Value) (own C : String) (index : Nat) (y : MethodName) (bytes : ByteArray) (maxL : Nat) (ret : Option FieldType) (hh : List (Nat × Nat × Nat × Nat)) (ws : List Cond) (rm : Room) (mc ms n : Nat) : Prop :=
  (rm.cells = mc ∧ rm.slots = ms ∧ rm.frames + 1 ≤ R.frames ∧ 8 + (maxL + 11) + rm.locals ≤ R.locals ∧ (∀ w ∈ ws, ∀ (a' : Array Value) (U : State), s.WarmedH U.vm → w.before a' U = true) ∧ Cond.codeWith y bytes maxL ret hh ∈ ws) ∧
  (Cond.codeWith y bytes maxL ret hh).before args s = true ∧ (Cond.initialized y.cls).before args s = true ∧ (y.cls ≠ "java/lang/invoke/MethodHandle" ∧ y.cls ≠ "java/lang/invoke/VarHandle") ∧
  (∀ sig, parseMethodDescriptor y.desc = some sig → n = sig.parameters.length) ∧ (Cond.methodLink own index y).before args s = true ∧ (Cond.instanceMethod y).before args s = true ∧ (Cond.selects C y y).before args s = true
theorem vx_cwVW {own C : String} {index maxL mc ms : Nat} {y : MethodName} {bytes : ByteArray} {ret : Option FieldType} {hh : List (Nat × Nat × Nat × Nat)} {Ts ws ws' : List Cond} {rm : Room} (n : Nat) (ht : ∀ w ∈ Ts, w.before args s = true) (hT : GoodIn Ts (wsV own index C y ws)) (hw : ws = Cond.codeWith y bytes maxL ret hh :: ws') (hrc : rm.cells = mc) (hrs : rm.slots = ms)
    (hd : y.cls = C ∧ y.cls ≠ "java/lang/invoke/MethodHandle" ∧ y.cls ≠ "java/lang/invoke/VarHandle" ∧ (parseMethodDescriptor y.desc).map (fun d => d.parameters.length) = some n) (hR : rm.frames + 1 ≤ R.frames ∧ 8 + (maxL + 11) + rm.locals ≤ R.locals) :
    vx_CVW R s args own C index y bytes maxL ret hh ws rm mc ms n := by
  obtain ⟨hC, hd⟩ := hd
  subst hC
  have ok : ∀ w ∈ wsV own index y.cls y ws, w.before args s = true := fun w h => ht w (hT w h).1
  have hG : GoodIn Ts ws := fun w h => hT w (by unfold wsV; exact List.mem_append_right _ h)
  have hc : Cond.codeWith y bytes maxL ret hh ∈ ws := by rw [hw]; exact List.mem_cons_self
  refine ⟨⟨hrc, hrs, hR.1, hR.2, pay_in ht hG, hc⟩, ht _ (hG _ hc).1, ok _ (by simp [wsV]), ⟨hd.1, hd.2.1⟩, fun sig h => ?_, ok _ (by simp [wsV]), ok _ (by simp [wsV]), ok _ (by simp [wsV])⟩
  have h2 := hd.2.2
  rw [h] at h2
  exact (Option.some.inj h2).symm
theorem vx_runVW {y : MethodName} {bytes cc : ByteArray} {maxL nL mc ms n index : Nat} {ret : Option FieldType} {hh : List (Nat × Nat × Nat × Nat)} {ws : List Cond} {rm : Room} {Pc : Array Value → State → Prop} {Qc : Array Value → State → Outcome → State → Prop} {free : Addr → Prop} {Ts : List Cond} {own C : String} {b : Addr} {As rest : List Value} {g : JFrame}
    (S : CallFix p m c cc nL s args Ts own) (hM : Met l y ws rm Pc Qc mc ms free) (cw : vx_CVW R s args own C index y bytes maxL ret hh ws rm mc ms n) (hp : PreV s H C b Pc As)
    (hg : g.method = m) (hn : As.length = n) (hsize : g.locals.size = nL) (hstack : g.stack = As.reverse ++ .ref b :: rest) (hW : 2 * g.monitorRoom + (rest.map fun v => v.category).sum ≤ 8) (hdg : decode cc g.pc = .ok (.invokevirtual index, 3)) (hf : cells + mc ≤ R.cells ∧ slots + ms ≤ R.slots) :
    va_Run p l e R s m args below meth c H locs cells slots mc ms g rest (Qc (Value.ref b :: As).toArray) free := by
  obtain ⟨⟨hrc, hrs, hfr, hlo, hws, hcw⟩, hcode, hini, hy, hlen, hl, hin, hse⟩ := cw
  have hK : Back l R p e below s args y 3 8 (PreOf R mc ms Pc) (PostOf Qc mc ms free) := va_backW (hh := hh) (bytes := bytes) (maxL := maxL) (ret := ret) hM hp.1 hrc hrs hfr hlo hws hcw (fun a' U hW => word_at hW (Or.inl (by first | rfl | simp [Cond.onTables, Cond.keeps, Cond.steady])) hini)
  obtain ⟨hx, hb, hml, ho, -⟩ := S
  obtain ⟨-, ⟨cellB, hcB, hoB, hclB⟩, hPc⟩ := hp
  intro T hT X
  obtain ⟨v, vm₁, ⟨U', l2, c2, s2⟩, hW₁, X', ⟨g', mk, t, L, e1, e2, hq, h1, hL, h2, h3⟩, st⟩ := vx_callVW X hx (C := C) (hh := hh) (bytes := bytes) (maxL := maxL) (ret := ret) ho hl hin hse hcode hy hK (by rw [hT]; exact hcB) hoB hclB hg (hsize.trans hml.symm) (argsL := As) (rest := rest) (fun sig h => hn.trans (hlen sig h)) hstack hW (by rw [hb]; exact hdg)
    (fun vm₁ hW₁ => ⟨hf.1, hf.2, hPc (T.setVm vm₁) hT hW₁⟩)
  dsimp only [Pt.U, Pt.locs, Pt.cells, Pt.slots] at X' e1 e2 h1 h2 h3 st
  subst h1; subst h2; subst h3
  exact ⟨v, (T.setVm vm₁).calling g' mk (Value.ref b :: As).toArray, t, U', L, hT, X', hL, e1, e2, hq, st⟩
section
variable {y : MethodName} {bytes cc : ByteArray} {maxL nL mc ms n index : Nat} {ret : Option FieldType} {ws : List Cond} {rm : Room} {Pc : Array Value → State → Prop} {Qc : Array Value → State → Outcome → State → Prop} {XC : String → State → State → Prop} {free : Addr → Prop} {Ts : List Cond} {own C : String} {b : Addr} {As rest : List Value} {g : JFrame}
theorem vx_runVX {hh : List (Nat × Nat × Nat × Nat)} (S : CallFix p m c cc nL s args Ts own) (hM : vx_Met l y ws rm Pc Qc XC mc ms free) (cw : vx_CVW R s args own C index y bytes maxL ret hh ws rm mc ms n) (hp : PreV s H C b Pc As)
    (hg : g.method = m) (hn : As.length = n) (hsize : g.locals.size = nL) (hstack : g.stack = As.reverse ++ .ref b :: rest) (hW : 2 * g.monitorRoom + (rest.map fun v => v.category).sum ≤ 8) (hdg : decode cc g.pc = .ok (.invokevirtual index, 3)) (hf : cells + mc ≤ R.cells ∧ slots + ms ≤ R.slots) :
    vx_Run p l e R s m args below meth c H locs cells slots mc ms g rest (Qc (Value.ref b :: As).toArray) XC free := by
  obtain ⟨⟨hrc, hrs, hfr, hlo, hws, hcw⟩, hcode, hini, hy, hlen, hl, hin, hse⟩ := cw
  have hK : vx_Back l R p e below s args y 3 8 (PreOf R mc ms Pc) (PostOf Qc mc ms free) (vx_Post XC mc ms free) := vx_backW (hh := hh) (bytes := bytes) (maxL := maxL) (ret := ret) hM hp.1 hrc hrs hfr hlo hws hcw (fun a' U hW => word_at hW (Or.inl (by first | rfl | simp [Cond.onTables, Cond.keeps, Cond.steady])) hini)
  obtain ⟨hx, hb, hml, ho, -⟩ := S
  obtain ⟨-, ⟨cellB, hcB, hoB, hclB⟩, hPc⟩ := hp
  intro T hT X
  rcases vx_callVX X hx (C := C) (hh := hh) (bytes := bytes) (maxL := maxL) (ret := ret) ho hl hin hse hcode hy hK (by rw [hT]; exact hcB) hoB hclB hg (hsize.trans hml.symm) (argsL := As) (rest := rest) (fun sig h => hn.trans (hlen sig h)) hstack hW (by rw [hb]; exact hdg)
    (fun vm₁ hW₁ => ⟨hf.1, hf.2, hPc (T.setVm vm₁) hT hW₁⟩) with ⟨v, vm₁, ⟨U', l2, c2, s2⟩, hW₁, X', ⟨g', mk, t, L, e1, e2, hq, h1, hL, h2, h3⟩, st⟩ | ⟨q, vm₁, ⟨U', l2, c2, s2⟩, hW₁, X', ⟨g', mk, t, L, E, ce, e1, e2, hq, hce, hcv, hcl, h1, hL, h2, h3⟩, st⟩
  · dsimp only [Pt.U, Pt.locs, Pt.cells, Pt.slots] at X' e1 e2 h1 h2 h3 st
    subst h1; subst h2; subst h3
    exact Or.inl ⟨v, (T.setVm vm₁).calling g' mk (Value.ref b :: As).toArray, t, U', L, hT, X', hL, e1, e2, hq, st⟩
  · dsimp only [Pt.U, Pt.locs, Pt.cells, Pt.slots] at X' e1 e2 h1 h2 h3 st hcl
    subst h1; subst h2; subst h3
    exact Or.inr ⟨q, (T.setVm vm₁).calling g' mk (Value.ref b :: As).toArray, t, U', L, E, ce, hT, X', hL, e1, e2, hq, hce, hcv, vx_cls hW₁ hcl, st⟩
theorem vx_runSX {hh : List (Nat × Nat × Nat × Nat)} (S : CallFix p m c cc nL s args Ts own) (hM : vx_Met l y ws rm Pc Qc XC mc ms free) (cw : vx_CSW R s args own index y bytes maxL ret hh ws rm mc ms n) (hp : PreS s H Pc As)
    (hg : g.method = m) (hn : As.length = n) (hsize : g.locals.size = nL) (hstack : g.stack = As.reverse ++ rest) (hW : 2 * g.monitorRoom + (rest.map fun v => v.category).sum ≤ 8) (hdg : decode cc g.pc = .ok (.invokestatic index, 3)) (hf : cells + mc ≤ R.cells ∧ slots + ms ≤ R.slots) :
    vx_Run p l e R s m args below meth c H locs cells slots mc ms g rest (Qc As.toArray) XC free := by
  obtain ⟨⟨hrc, hrs, hfr, hlo, hws, hcw⟩, hcode, hini, hy, hlen, hl, hstt⟩ := cw
  have hK : vx_Back l R p e below s args y 3 8 (PreOf R mc ms Pc) (PostOf Qc mc ms free) (vx_Post XC mc ms free) := vx_backW (hh := hh) (bytes := bytes) (maxL := maxL) (ret := ret) hM hp.1 hrc hrs hfr hlo hws hcw (fun a' U hW => word_at hW (Or.inl (by first | rfl | simp [Cond.onTables, Cond.keeps, Cond.steady])) hini)
  obtain ⟨hx, hb, hml, ho, -⟩ := S
  intro T hT X
  rcases vx_callSX X hx (hh := hh) (bytes := bytes) (maxL := maxL) (ret := ret) ho hl hstt hini hcode hy hK hg (hsize.trans hml.symm) (argsL := As) (rest := rest) (fun sig h => hn.trans (hlen sig h)) hstack hW (by rw [hb]; exact hdg)
    (fun vm₁ hW₁ => ⟨hf.1, hf.2, hp.2 (T.setVm vm₁) hT hW₁⟩) with ⟨v, vm₁, ⟨U', l2, c2, s2⟩, hW₁, X', ⟨g', mk, t, L, e1, e2, hq, h1, hL, h2, h3⟩, st⟩ | ⟨q, vm₁, ⟨U', l2, c2, s2⟩, hW₁, X', ⟨g', mk, t, L, E, ce, e1, e2, hq, hce, hcv, hcl, h1, hL, h2, h3⟩, st⟩
  · dsimp only [Pt.U, Pt.locs, Pt.cells, Pt.slots] at X' e1 e2 h1 h2 h3 st
    subst h1; subst h2; subst h3
    exact Or.inl ⟨v, (T.setVm vm₁).calling g' mk As.toArray, t, U', L, hT, X', hL, e1, e2, hq, st⟩
  · dsimp only [Pt.U, Pt.locs, Pt.cells, Pt.slots] at X' e1 e2 h1 h2 h3 st hcl
    subst h1; subst h2; subst h3
    exact Or.inr ⟨q, (T.setVm vm₁).calling g' mk As.toArray, t, U', L, E, ce, hT, X', hL, e1, e2, hq, hce, hcv, vx_cls hW₁ hcl, st⟩
end
end VXH
theorem vx_ofWH {l : Launch} {y : MethodName} {ws ws' : List Cond} {rm : Room} {Pc : Array Value → State → Prop} {Qc : Array Value → State → Outcome → State → Prop} {XC : String → State → State → Prop} {mc ms : Nat} {free : Addr → Prop} {cc : ByteArray} {maxL : Nat} {ret : Option FieldType} {hh : List (Nat × Nat × Nat × Nat)}
    (hy : plainName y.cls = true) (hw : ws = Cond.codeWith y cc maxL ret hh :: ws')
    (body : ∀ p e s m args below meth c s₁, BodyLoose p l y (headSpec ws rm) cc maxL ret e s m args below meth c s₁ → c.maxLocals = maxL → Pc args s →
      W p l e (headSpec ws rm).room s m args below meth c s.heap [] 0 0 (vx_MQ below Qc XC args s mc ms free) (entryFrame m args maxL)) : vx_Met l y ws rm Pc Qc XC mc ms free := by
  refine MetFree.of_bodyS (code := cc) (maxLocals := maxL) (ret := ret) hy ?_ ?_
  · intro args s m h hn
    obtain ⟨m9, meth, c, hn9, h1, h2, h3, h4, -, h5, h6, -⟩ := Cond.codeWith_spec (atoms_spec (ws := ws) h _ (by rw [hw]; exact List.mem_cons_self))
    cases hn.symm.trans hn9
    exact ⟨meth, c, h1, h2, h3, h4, h5, h6⟩
  · intro p e s m args below meth c s₁ B hml hP _
    have hh0 : s₁.heap = s.heap := by rw [B.state]; rfl
    obtain ⟨t, a1, o, b1, b2, b3⟩ := body p e s m args below meth c s₁ B hml hP s₁ hh0 (Stand.of_body B)
    exact ⟨t, o, a1, b1, b2, b3⟩
/-! ===== END ===== -/
end
section
/-! ===== BEGIN printed: names, fields, word lists, decode rows ===== -/
def RX0 : String := "SaveRestore$Row"
def TX0 : u_T := fun k => match k with
  | 0 => ("SaveRestore$Row", "thing", "LSaveRestore$Thing;", true)
  | 1 => ("SaveRestore$Row", "cell", "I", true)
  | 2 => ("SaveRestore$Row", "value", "I", true)
  | 3 => ("SaveRestore$Row", "ownerBefore", "I", true)
  | _ => ("SaveRestore$Row", "next", "LSaveRestore$Row;", true)
def tyX0 : Nat → FieldType := fun k => match k with
  | 0 => .object "SaveRestore$Thing"
  | 1 => .int
  | 2 => .int
  | 3 => .int
  | _ => .object "SaveRestore$Row"
abbrev wsX00 : List Cond := u_ws RX0 TX0 5
theorem nmX0 : ∀ a, a < 5 → ∀ b, b < 5 → a ≠ b → (TX0 a).2.1 ≠ (TX0 b).2.1 := by decide +kernel
theorem tyX0_ok : ∀ k, k < 5 → parseFieldDescriptor (TX0 k).2.2.1 = some (tyX0 k) := by decide +kernel
abbrev cX0_init : ByteArray := prog_2_method_1_code
def yX0_init : MethodName := ⟨RX0, "<init>", "(LSaveRestore$Thing;ILSaveRestore$Row;)V"⟩
abbrev cX0_putBack : ByteArray := prog_2_method_2_code
def yX0_putBack : MethodName := ⟨RX0, "putBack", "()V"⟩
def RX1 : String := "SaveRestore$Save"
def TX1 : u_T := fun k => match k with
  | 0 => ("SaveRestore$Save", "number", "I", false)
  | 1 => ("SaveRestore$Save", "firstNewerThing", "I", false)
  | 2 => ("SaveRestore$Save", "pushedBefore", "I", false)
  | 3 => ("SaveRestore$Save", "parameters", "[I", true)
  | 4 => ("SaveRestore$Save", "rows", "LSaveRestore$Row;", false)
  | _ => ("SaveRestore$Save", "rowCount", "I", false)
def tyX1 : Nat → FieldType := fun k => match k with
  | 0 => .int
  | 1 => .int
  | 2 => .int
  | 3 => .array .int
  | 4 => .object "SaveRestore$Row"
  | _ => .int
abbrev wsX10 : List Cond := u_ws RX1 TX1 6
theorem nmX1 : ∀ a, a < 6 → ∀ b, b < 6 → a ≠ b → (TX1 a).2.1 ≠ (TX1 b).2.1 := by decide +kernel
theorem tyX1_ok : ∀ k, k < 6 → parseFieldDescriptor (TX1 k).2.2.1 = some (tyX1 k) := by decide +kernel
abbrev cX1_init : ByteArray := prog_3_method_1_code
def yX1_init : MethodName := ⟨RX1, "<init>", "()V"⟩
def RX2 : String := "SaveRestore$Thing"
def TX2 : u_T := fun k => match k with
  | 0 => ("SaveRestore$Thing", "number", "I", true)
  | 1 => ("SaveRestore$Thing", "global", "Z", true)
  | 2 => ("SaveRestore$Thing", "cells", "[I", true)
  | 3 => ("SaveRestore$Thing", "bytes", "[I", true)
  | _ => ("SaveRestore$Thing", "rowOwners", "[I", true)
def tyX2 : Nat → FieldType := fun k => match k with
  | 0 => .int
  | 1 => .boolean
  | 2 => .array .int
  | 3 => .array .int
  | _ => .array .int
abbrev wsX20 : List Cond := u_ws RX2 TX2 5
theorem nmX2 : ∀ a, a < 5 → ∀ b, b < 5 → a ≠ b → (TX2 a).2.1 ≠ (TX2 b).2.1 := by decide +kernel
theorem tyX2_ok : ∀ k, k < 5 → parseFieldDescriptor (TX2 k).2.2.1 = some (tyX2 k) := by decide +kernel
abbrev cX2_init : ByteArray := prog_4_method_1_code
def yX2_init : MethodName := ⟨RX2, "<init>", "(IZ)V"⟩
abbrev cX2_isNewerThan : ByteArray := prog_4_method_2_code
def yX2_isNewerThan : MethodName := ⟨RX2, "isNewerThan", "(LSaveRestore$Save;)Z"⟩
def RX3 : String := "SaveRestore"
def TX3 : u_T := fun k => match k with
  | 0 => ("SaveRestore", "things", "[LSaveRestore$Thing;", true)
  | 1 => ("SaveRestore", "thingCount", "I", false)
  | 2 => ("SaveRestore", "thingsMade", "I", false)
  | 3 => ("SaveRestore", "saves", "[LSaveRestore$Save;", true)
  | 4 => ("SaveRestore", "living", "I", false)
  | 5 => ("SaveRestore", "savesMade", "I", false)
  | 6 => ("SaveRestore", "mostLiving", "I", false)
  | 7 => ("SaveRestore", "parameters", "[I", true)
  | 8 => ("SaveRestore", "pushed", "[[I", true)
  | _ => ("SaveRestore", "pushedCount", "I", false)
def tyX3 : Nat → FieldType := fun k => match k with
  | 0 => .array (.object "SaveRestore$Thing")
  | 1 => .int
  | 2 => .int
  | 3 => .array (.object "SaveRestore$Save")
  | 4 => .int
  | 5 => .int
  | 6 => .int
  | 7 => .array .int
  | 8 => .array (.array .int)
  | _ => .int
abbrev wsX30 : List Cond := u_ws RX3 TX3 10
theorem nmX3 : ∀ a, a < 10 → ∀ b, b < 10 → a ≠ b → (TX3 a).2.1 ≠ (TX3 b).2.1 := by decide +kernel
theorem tyX3_ok : ∀ k, k < 10 → parseFieldDescriptor (TX3 k).2.2.1 = some (tyX3 k) := by decide +kernel
abbrev cX3_init : ByteArray := prog_1_method_1_code
def yX3_init : MethodName := ⟨RX3, "<init>", "()V"⟩
abbrev cX3_object : ByteArray := prog_1_method_2_code
def yX3_object : MethodName := ⟨RX3, "object", "(Z)I"⟩
abbrev cX3_put : ByteArray := prog_1_method_3_code
def yX3_put : MethodName := ⟨RX3, "put", "(III)I"⟩
abbrev cX3_get : ByteArray := prog_1_method_4_code
def yX3_get : MethodName := ⟨RX3, "get", "(II)I"⟩
abbrev cX3_save : ByteArray := prog_1_method_5_code
def yX3_save : MethodName := ⟨RX3, "save", "()I"⟩
abbrev cX3_restore : ByteArray := prog_1_method_6_code
def yX3_restore : MethodName := ⟨RX3, "restore", "(I)I"⟩
abbrev cX3_state : ByteArray := prog_1_method_7_code
def yX3_state : MethodName := ⟨RX3, "state", "(II)I"⟩
abbrev cX3_stateOf : ByteArray := prog_1_method_8_code
def yX3_stateOf : MethodName := ⟨RX3, "stateOf", "(I)I"⟩
abbrev cX3_push : ByteArray := prog_1_method_9_code
def yX3_push : MethodName := ⟨RX3, "push", "()I"⟩
abbrev cX3_pop : ByteArray := prog_1_method_10_code
def yX3_pop : MethodName := ⟨RX3, "pop", "()I"⟩
abbrev cX3_bytes : ByteArray := prog_1_method_11_code
def yX3_bytes : MethodName := ⟨RX3, "bytes", "(III)I"⟩
abbrev cX3_used : ByteArray := prog_1_method_12_code
def yX3_used : MethodName := ⟨RX3, "used", "()I"⟩
abbrev cX3_old : ByteArray := prog_1_method_13_code
def yX3_old : MethodName := ⟨RX3, "old", "(I)I"⟩
abbrev cX3_deepest : ByteArray := prog_1_method_14_code
def yX3_deepest : MethodName := ⟨RX3, "deepest", "()I"⟩
abbrev cX3_existing : ByteArray := prog_1_method_15_code
def yX3_existing : MethodName := ⟨RX3, "existing", "(I)LSaveRestore$Thing;"⟩
abbrev cX3_find : ByteArray := prog_1_method_16_code
def yX3_find : MethodName := ⟨RX3, "find", "(I)LSaveRestore$Thing;"⟩
abbrev cX3_referredTo : ByteArray := prog_1_method_17_code
def yX3_referredTo : MethodName := ⟨RX3, "referredTo", "(I)LSaveRestore$Thing;"⟩
abbrev cX3_refersToLocal : ByteArray := prog_1_method_18_code
def yX3_refersToLocal : MethodName := ⟨RX3, "refersToLocal", "(I)Z"⟩
abbrev cX3_checkValue : ByteArray := prog_1_method_19_code
def yX3_checkValue : MethodName := ⟨RX3, "checkValue", "(I)V"⟩
abbrev cX3_checkIndex : ByteArray := prog_1_method_20_code
def yX3_checkIndex : MethodName := ⟨RX3, "checkIndex", "(II)V"⟩
abbrev cX3_keepRow : ByteArray := prog_1_method_21_code
def yX3_keepRow : MethodName := ⟨RX3, "keepRow", "(LSaveRestore$Thing;I)V"⟩
abbrev cX3_placeOfLiving : ByteArray := prog_1_method_22_code
def yX3_placeOfLiving : MethodName := ⟨RX3, "placeOfLiving", "(I)I"⟩
abbrev cX3_keptRefersToNewer : ByteArray := prog_1_method_23_code
def yX3_keptRefersToNewer : MethodName := ⟨RX3, "keptRefersToNewer", "(LSaveRestore$Save;)Z"⟩
abbrev cX3_undoSince : ByteArray := prog_1_method_24_code
def yX3_undoSince : MethodName := ⟨RX3, "undoSince", "(LSaveRestore$Save;)V"⟩
abbrev cX3_dropLocalsNewerThan : ByteArray := prog_1_method_25_code
def yX3_dropLocalsNewerThan : MethodName := ⟨RX3, "dropLocalsNewerThan", "(LSaveRestore$Save;)V"⟩
abbrev cX3_pushedSinceLatestSave : ByteArray := prog_1_method_26_code
def yX3_pushedSinceLatestSave : MethodName := ⟨RX3, "pushedSinceLatestSave", "()I"⟩
def RX4 : String := "SaveRestoreModel"
def TX4 : u_T := fun k => match k with
  | 0 => ("SaveRestoreModel", "thrown", "I", false)
  | 1 => ("SaveRestoreModel", "made", "I", false)
  | 2 => ("SaveRestoreModel", "alive", "I", false)
  | 3 => ("SaveRestoreModel", "isThere", "[Z", true)
  | 4 => ("SaveRestoreModel", "global", "[Z", true)
  | 5 => ("SaveRestoreModel", "cells", "[I", true)
  | 6 => ("SaveRestoreModel", "octets", "[I", true)
  | 7 => ("SaveRestoreModel", "parameters", "[I", true)
  | 8 => ("SaveRestoreModel", "saves", "I", false)
  | 9 => ("SaveRestoreModel", "lastSave", "I", false)
  | 10 => ("SaveRestoreModel", "deepest", "I", false)
  | 11 => ("SaveRestoreModel", "number", "[I", true)
  | 12 => ("SaveRestoreModel", "first", "[I", true)
  | 13 => ("SaveRestoreModel", "rowsBefore", "[I", true)
  | 14 => ("SaveRestoreModel", "statesBefore", "[I", true)
  | 15 => ("SaveRestoreModel", "had", "[I", true)
  | 16 => ("SaveRestoreModel", "rows", "I", false)
  | 17 => ("SaveRestoreModel", "place", "[I", true)
  | 18 => ("SaveRestoreModel", "value", "[I", true)
  | 19 => ("SaveRestoreModel", "states", "I", false)
  | _ => ("SaveRestoreModel", "pushed", "[I", true)
def tyX4 : Nat → FieldType := fun k => match k with
  | 0 => .int
  | 1 => .int
  | 2 => .int
  | 3 => .array .boolean
  | 4 => .array .boolean
  | 5 => .array .int
  | 6 => .array .int
  | 7 => .array .int
  | 8 => .int
  | 9 => .int
  | 10 => .int
  | 11 => .array .int
  | 12 => .array .int
  | 13 => .array .int
  | 14 => .array .int
  | 15 => .array .int
  | 16 => .int
  | 17 => .array .int
  | 18 => .array .int
  | 19 => .int
  | _ => .array .int
abbrev wsX40 : List Cond := u_ws RX4 TX4 21
theorem nmX4 : ∀ a, a < 21 → ∀ b, b < 21 → a ≠ b → (TX4 a).2.1 ≠ (TX4 b).2.1 := by decide +kernel
theorem tyX4_ok : ∀ k, k < 21 → parseFieldDescriptor (TX4 k).2.2.1 = some (tyX4 k) := by decide +kernel
abbrev cX4_init : ByteArray := prog_6_method_1_code
def yX4_init : MethodName := ⟨RX4, "<init>", "()V"⟩
abbrev cX4_thrown : ByteArray := prog_6_method_2_code
def yX4_thrown : MethodName := ⟨RX4, "thrown", "()I"⟩
abbrev cX4_isObject : ByteArray := prog_6_method_3_code
def yX4_isObject : MethodName := ⟨RX4, "isObject", "(I)Z"⟩
abbrev cX4_isValue : ByteArray := prog_6_method_4_code
def yX4_isValue : MethodName := ⟨RX4, "isValue", "(I)Z"⟩
abbrev cX4_isEight : ByteArray := prog_6_method_5_code
def yX4_isEight : MethodName := ⟨RX4, "isEight", "(I)Z"⟩
abbrev cX4_object : ByteArray := prog_6_method_6_code
def yX4_object : MethodName := ⟨RX4, "object", "(Z)I"⟩
abbrev cX4_keep : ByteArray := prog_6_method_7_code
def yX4_keep : MethodName := ⟨RX4, "keep", "(I)V"⟩
abbrev cX4_put : ByteArray := prog_6_method_8_code
def yX4_put : MethodName := ⟨RX4, "put", "(III)I"⟩
abbrev cX4_get : ByteArray := prog_6_method_9_code
def yX4_get : MethodName := ⟨RX4, "get", "(II)I"⟩
abbrev cX4_save : ByteArray := prog_6_method_10_code
def yX4_save : MethodName := ⟨RX4, "save", "()I"⟩
abbrev cX4_isLive : ByteArray := prog_6_method_11_code
def yX4_isLive : MethodName := ⟨RX4, "isLive", "(I)Z"⟩
abbrev cX4_isNewer : ByteArray := prog_6_method_12_code
def yX4_isNewer : MethodName := ⟨RX4, "isNewer", "(II)Z"⟩
abbrev cX4_restore : ByteArray := prog_6_method_13_code
def yX4_restore : MethodName := ⟨RX4, "restore", "(I)I"⟩
abbrev cX4_isParameter : ByteArray := prog_6_method_14_code
def yX4_isParameter : MethodName := ⟨RX4, "isParameter", "(I)Z"⟩
abbrev cX4_state : ByteArray := prog_6_method_15_code
def yX4_state : MethodName := ⟨RX4, "state", "(II)I"⟩
abbrev cX4_stateOf : ByteArray := prog_6_method_16_code
def yX4_stateOf : MethodName := ⟨RX4, "stateOf", "(I)I"⟩
abbrev cX4_ownStates : ByteArray := prog_6_method_17_code
def yX4_ownStates : MethodName := ⟨RX4, "ownStates", "()I"⟩
abbrev cX4_push : ByteArray := prog_6_method_18_code
def yX4_push : MethodName := ⟨RX4, "push", "()I"⟩
abbrev cX4_pop : ByteArray := prog_6_method_19_code
def yX4_pop : MethodName := ⟨RX4, "pop", "()I"⟩
abbrev cX4_bytes : ByteArray := prog_6_method_20_code
def yX4_bytes : MethodName := ⟨RX4, "bytes", "(III)I"⟩
abbrev cX4_used : ByteArray := prog_6_method_21_code
def yX4_used : MethodName := ⟨RX4, "used", "()I"⟩
abbrev cX4_old : ByteArray := prog_6_method_22_code
def yX4_old : MethodName := ⟨RX4, "old", "(I)I"⟩
abbrev cX4_deepest : ByteArray := prog_6_method_23_code
def yX4_deepest : MethodName := ⟨RX4, "deepest", "()I"⟩
def RJx145de : String := "java/io/Serializable"
def TJx145de : u_T := fun k => match k with
  | _ => ("", "", "", false)
def tyJx145de : Nat → FieldType := fun k => match k with
  | _ => .int
abbrev wsJx145de0 : List Cond := u_ws RJx145de TJx145de 0
theorem nmJx145de : ∀ a, a < 0 → ∀ b, b < 0 → a ≠ b → (TJx145de a).2.1 ≠ (TJx145de b).2.1 := by decide +kernel
theorem tyJx145de_ok : ∀ k, k < 0 → parseFieldDescriptor (TJx145de k).2.2.1 = some (tyJx145de k) := by decide +kernel
def RJ9 : String := "java/lang/Math"
def TJ9 : u_T := fun k => match k with
  | _ => ("", "", "", false)
def tyJ9 : Nat → FieldType := fun k => match k with
  | _ => .int
abbrev wsJ90 : List Cond := u_ws RJ9 TJ9 0
theorem nmJ9 : ∀ a, a < 0 → ∀ b, b < 0 → a ≠ b → (TJ9 a).2.1 ≠ (TJ9 b).2.1 := by decide +kernel
theorem tyJ9_ok : ∀ k, k < 0 → parseFieldDescriptor (TJ9 k).2.2.1 = some (tyJ9 k) := by decide +kernel
abbrev cJ9_max_7cf53 : ByteArray := prog_11_method_65_code
def yJ9_max_7cf53 : MethodName := ⟨RJ9, "max", "(II)I"⟩
abbrev cJ9_min_7cf53 : ByteArray := prog_11_method_69_code
def yJ9_min_7cf53 : MethodName := ⟨RJ9, "min", "(II)I"⟩
def RJ0 : String := "java/lang/String"
def TJ0 : u_T := fun k => match k with
  | _ => ("", "", "", false)
def tyJ0 : Nat → FieldType := fun k => match k with
  | _ => .int
abbrev wsJ00 : List Cond := u_ws RJ0 TJ0 0
theorem nmJ0 : ∀ a, a < 0 → ∀ b, b < 0 → a ≠ b → (TJ0 a).2.1 ≠ (TJ0 b).2.1 := by decide +kernel
theorem tyJ0_ok : ∀ k, k < 0 → parseFieldDescriptor (TJ0 k).2.2.1 = some (tyJ0 k) := by decide +kernel
def RJ10 : String := "java/lang/System"
def TJ10 : u_T := fun k => match k with
  | _ => ("", "", "", false)
def tyJ10 : Nat → FieldType := fun k => match k with
  | _ => .int
abbrev wsJ100 : List Cond := u_ws RJ10 TJ10 0
theorem nmJ10 : ∀ a, a < 0 → ∀ b, b < 0 → a ≠ b → (TJ10 a).2.1 ≠ (TJ10 b).2.1 := by decide +kernel
theorem tyJ10_ok : ∀ k, k < 0 → parseFieldDescriptor (TJ10 k).2.2.1 = some (tyJ10 k) := by decide +kernel
def RL : String := "SaveRestoreLaw"
abbrev cL_object : ByteArray := method_3_code
def yL_object : MethodName := ⟨RL, "object", "(LSaveRestore;Z[J)I"⟩
abbrev cL_put : ByteArray := method_4_code
def yL_put : MethodName := ⟨RL, "put", "(LSaveRestore;III[J)I"⟩
abbrev cL_get : ByteArray := method_5_code
def yL_get : MethodName := ⟨RL, "get", "(LSaveRestore;II[J)I"⟩
abbrev cL_save : ByteArray := method_6_code
def yL_save : MethodName := ⟨RL, "save", "(LSaveRestore;[J)I"⟩
abbrev cL_state : ByteArray := method_7_code
def yL_state : MethodName := ⟨RL, "state", "(LSaveRestore;II[J)I"⟩
abbrev cL_stateOf : ByteArray := method_8_code
def yL_stateOf : MethodName := ⟨RL, "stateOf", "(LSaveRestore;I[J)I"⟩
abbrev cL_push : ByteArray := method_9_code
def yL_push : MethodName := ⟨RL, "push", "(LSaveRestore;[J)I"⟩
abbrev cL_bytes : ByteArray := method_10_code
def yL_bytes : MethodName := ⟨RL, "bytes", "(LSaveRestore;III[J)I"⟩
abbrev cL_old : ByteArray := method_11_code
def yL_old : MethodName := ⟨RL, "old", "(LSaveRestore;I[J)I"⟩
abbrev cL_law : ByteArray := code
def yL_law : MethodName := ⟨RL, "law", "([I)Z"⟩
theorem dX0_init_0 : decode cX0_init 0 = .ok (.aload_n 0, 1) := by decide +kernel
theorem dX0_init_1 : decode cX0_init 1 = .ok (.invokespecial 1, 3) := by decide +kernel
theorem dX0_init_4 : decode cX0_init 4 = .ok (.aload_n 0, 1) := by decide +kernel
theorem dX0_init_5 : decode cX0_init 5 = .ok (.aload_n 1, 1) := by decide +kernel
theorem dX0_init_6 : decode cX0_init 6 = .ok (.putfield 7, 3) := by decide +kernel
theorem dX0_init_9 : decode cX0_init 9 = .ok (.aload_n 0, 1) := by decide +kernel
theorem dX0_init_10 : decode cX0_init 10 = .ok (.iload_n 2, 1) := by decide +kernel
theorem dX0_init_11 : decode cX0_init 11 = .ok (.putfield 13, 3) := by decide +kernel
theorem dX0_init_14 : decode cX0_init 14 = .ok (.aload_n 0, 1) := by decide +kernel
theorem dX0_init_15 : decode cX0_init 15 = .ok (.aload_n 1, 1) := by decide +kernel
theorem dX0_init_16 : decode cX0_init 16 = .ok (.getfield 17, 3) := by decide +kernel
theorem dX0_init_19 : decode cX0_init 19 = .ok (.iload_n 2, 1) := by decide +kernel
theorem dX0_init_20 : decode cX0_init 20 = .ok (.iaload, 1) := by decide +kernel
theorem dX0_init_21 : decode cX0_init 21 = .ok (.putfield 23, 3) := by decide +kernel
theorem dX0_init_24 : decode cX0_init 24 = .ok (.aload_n 0, 1) := by decide +kernel
theorem dX0_init_25 : decode cX0_init 25 = .ok (.aload_n 1, 1) := by decide +kernel
theorem dX0_init_26 : decode cX0_init 26 = .ok (.getfield 26, 3) := by decide +kernel
theorem dX0_init_29 : decode cX0_init 29 = .ok (.iload_n 2, 1) := by decide +kernel
theorem dX0_init_30 : decode cX0_init 30 = .ok (.iaload, 1) := by decide +kernel
theorem dX0_init_31 : decode cX0_init 31 = .ok (.putfield 29, 3) := by decide +kernel
theorem dX0_init_34 : decode cX0_init 34 = .ok (.aload_n 0, 1) := by decide +kernel
theorem dX0_init_35 : decode cX0_init 35 = .ok (.aload_n 3, 1) := by decide +kernel
theorem dX0_init_36 : decode cX0_init 36 = .ok (.putfield 32, 3) := by decide +kernel
theorem dX0_init_39 : decode cX0_init 39 = .ok (.return_, 1) := by decide +kernel
theorem dX0_putBack_0 : decode cX0_putBack 0 = .ok (.aload_n 0, 1) := by decide +kernel
theorem dX0_putBack_1 : decode cX0_putBack 1 = .ok (.getfield 7, 3) := by decide +kernel
theorem dX0_putBack_4 : decode cX0_putBack 4 = .ok (.getfield 17, 3) := by decide +kernel
theorem dX0_putBack_7 : decode cX0_putBack 7 = .ok (.aload_n 0, 1) := by decide +kernel
theorem dX0_putBack_8 : decode cX0_putBack 8 = .ok (.getfield 13, 3) := by decide +kernel
theorem dX0_putBack_11 : decode cX0_putBack 11 = .ok (.aload_n 0, 1) := by decide +kernel
theorem dX0_putBack_12 : decode cX0_putBack 12 = .ok (.getfield 23, 3) := by decide +kernel
theorem dX0_putBack_15 : decode cX0_putBack 15 = .ok (.iastore, 1) := by decide +kernel
theorem dX0_putBack_16 : decode cX0_putBack 16 = .ok (.aload_n 0, 1) := by decide +kernel
theorem dX0_putBack_17 : decode cX0_putBack 17 = .ok (.getfield 7, 3) := by decide +kernel
theorem dX0_putBack_20 : decode cX0_putBack 20 = .ok (.getfield 26, 3) := by decide +kernel
theorem dX0_putBack_23 : decode cX0_putBack 23 = .ok (.aload_n 0, 1) := by decide +kernel
theorem dX0_putBack_24 : decode cX0_putBack 24 = .ok (.getfield 13, 3) := by decide +kernel
theorem dX0_putBack_27 : decode cX0_putBack 27 = .ok (.aload_n 0, 1) := by decide +kernel
theorem dX0_putBack_28 : decode cX0_putBack 28 = .ok (.getfield 29, 3) := by decide +kernel
theorem dX0_putBack_31 : decode cX0_putBack 31 = .ok (.iastore, 1) := by decide +kernel
theorem dX0_putBack_32 : decode cX0_putBack 32 = .ok (.return_, 1) := by decide +kernel
theorem dX1_init_0 : decode cX1_init 0 = .ok (.aload_n 0, 1) := by decide +kernel
theorem dX1_init_1 : decode cX1_init 1 = .ok (.invokespecial 3, 3) := by decide +kernel
theorem dX1_init_4 : decode cX1_init 4 = .ok (.aload_n 0, 1) := by decide +kernel
theorem dX1_init_5 : decode cX1_init 5 = .ok (.iconst 0, 1) := by decide +kernel
theorem dX1_init_6 : decode cX1_init 6 = .ok (.putfield 9, 3) := by decide +kernel
theorem dX1_init_9 : decode cX1_init 9 = .ok (.aload_n 0, 1) := by decide +kernel
theorem dX1_init_10 : decode cX1_init 10 = .ok (.iconst 0, 1) := by decide +kernel
theorem dX1_init_11 : decode cX1_init 11 = .ok (.putfield 15, 3) := by decide +kernel
theorem dX1_init_14 : decode cX1_init 14 = .ok (.aload_n 0, 1) := by decide +kernel
theorem dX1_init_15 : decode cX1_init 15 = .ok (.iconst 0, 1) := by decide +kernel
theorem dX1_init_16 : decode cX1_init 16 = .ok (.putfield 18, 3) := by decide +kernel
theorem dX1_init_19 : decode cX1_init 19 = .ok (.aload_n 0, 1) := by decide +kernel
theorem dX1_init_20 : decode cX1_init 20 = .ok (.bipush 8, 2) := by decide +kernel
theorem dX1_init_22 : decode cX1_init 22 = .ok (.newarray .int, 2) := by decide +kernel
theorem dX1_init_24 : decode cX1_init 24 = .ok (.putfield 21, 3) := by decide +kernel
theorem dX1_init_27 : decode cX1_init 27 = .ok (.aload_n 0, 1) := by decide +kernel
theorem dX1_init_28 : decode cX1_init 28 = .ok (.aconst_null, 1) := by decide +kernel
theorem dX1_init_29 : decode cX1_init 29 = .ok (.putfield 25, 3) := by decide +kernel
theorem dX1_init_32 : decode cX1_init 32 = .ok (.aload_n 0, 1) := by decide +kernel
theorem dX1_init_33 : decode cX1_init 33 = .ok (.iconst 0, 1) := by decide +kernel
theorem dX1_init_34 : decode cX1_init 34 = .ok (.putfield 29, 3) := by decide +kernel
theorem dX1_init_37 : decode cX1_init 37 = .ok (.return_, 1) := by decide +kernel
theorem dX2_init_0 : decode cX2_init 0 = .ok (.aload_n 0, 1) := by decide +kernel
theorem dX2_init_1 : decode cX2_init 1 = .ok (.invokespecial 3, 3) := by decide +kernel
theorem dX2_init_4 : decode cX2_init 4 = .ok (.aload_n 0, 1) := by decide +kernel
theorem dX2_init_5 : decode cX2_init 5 = .ok (.bipush 8, 2) := by decide +kernel
theorem dX2_init_7 : decode cX2_init 7 = .ok (.newarray .int, 2) := by decide +kernel
theorem dX2_init_9 : decode cX2_init 9 = .ok (.putfield 9, 3) := by decide +kernel
theorem dX2_init_12 : decode cX2_init 12 = .ok (.aload_n 0, 1) := by decide +kernel
theorem dX2_init_13 : decode cX2_init 13 = .ok (.bipush 8, 2) := by decide +kernel
theorem dX2_init_15 : decode cX2_init 15 = .ok (.newarray .int, 2) := by decide +kernel
theorem dX2_init_17 : decode cX2_init 17 = .ok (.putfield 15, 3) := by decide +kernel
theorem dX2_init_20 : decode cX2_init 20 = .ok (.aload_n 0, 1) := by decide +kernel
theorem dX2_init_21 : decode cX2_init 21 = .ok (.bipush 8, 2) := by decide +kernel
theorem dX2_init_23 : decode cX2_init 23 = .ok (.newarray .int, 2) := by decide +kernel
theorem dX2_init_25 : decode cX2_init 25 = .ok (.putfield 18, 3) := by decide +kernel
theorem dX2_init_28 : decode cX2_init 28 = .ok (.aload_n 0, 1) := by decide +kernel
theorem dX2_init_29 : decode cX2_init 29 = .ok (.iload_n 1, 1) := by decide +kernel
theorem dX2_init_30 : decode cX2_init 30 = .ok (.putfield 21, 3) := by decide +kernel
theorem dX2_init_33 : decode cX2_init 33 = .ok (.aload_n 0, 1) := by decide +kernel
theorem dX2_init_34 : decode cX2_init 34 = .ok (.iload_n 2, 1) := by decide +kernel
theorem dX2_init_35 : decode cX2_init 35 = .ok (.putfield 25, 3) := by decide +kernel
theorem dX2_init_38 : decode cX2_init 38 = .ok (.return_, 1) := by decide +kernel
theorem dX2_isNewerThan_0 : decode cX2_isNewerThan 0 = .ok (.aload_n 0, 1) := by decide +kernel
theorem dX2_isNewerThan_1 : decode cX2_isNewerThan 1 = .ok (.getfield 21, 3) := by decide +kernel
theorem dX2_isNewerThan_4 : decode cX2_isNewerThan 4 = .ok (.aload_n 1, 1) := by decide +kernel
theorem dX2_isNewerThan_5 : decode cX2_isNewerThan 5 = .ok (.getfield 29, 3) := by decide +kernel
theorem dX2_isNewerThan_8 : decode cX2_isNewerThan 8 = .ok (.if_icmp .lt 7, 3) := by decide +kernel
theorem dX2_isNewerThan_11 : decode cX2_isNewerThan 11 = .ok (.iconst 1, 1) := by decide +kernel
theorem dX2_isNewerThan_12 : decode cX2_isNewerThan 12 = .ok (.goto 4, 3) := by decide +kernel
theorem dX2_isNewerThan_15 : decode cX2_isNewerThan 15 = .ok (.iconst 0, 1) := by decide +kernel
theorem dX2_isNewerThan_16 : decode cX2_isNewerThan 16 = .ok (.ireturn, 1) := by decide +kernel
theorem dX3_init_0 : decode cX3_init 0 = .ok (.aload_n 0, 1) := by decide +kernel
theorem dX3_init_1 : decode cX3_init 1 = .ok (.invokespecial 1, 3) := by decide +kernel
theorem dX3_init_4 : decode cX3_init 4 = .ok (.aload_n 0, 1) := by decide +kernel
theorem dX3_init_5 : decode cX3_init 5 = .ok (.sipush 200, 3) := by decide +kernel
theorem dX3_init_8 : decode cX3_init 8 = .ok (.anewarray 9, 3) := by decide +kernel
theorem dX3_init_11 : decode cX3_init 11 = .ok (.putfield 11, 3) := by decide +kernel
theorem dX3_init_14 : decode cX3_init 14 = .ok (.aload_n 0, 1) := by decide +kernel
theorem dX3_init_15 : decode cX3_init 15 = .ok (.iconst 0, 1) := by decide +kernel
theorem dX3_init_16 : decode cX3_init 16 = .ok (.putfield 15, 3) := by decide +kernel
theorem dX3_init_19 : decode cX3_init 19 = .ok (.aload_n 0, 1) := by decide +kernel
theorem dX3_init_20 : decode cX3_init 20 = .ok (.iconst 0, 1) := by decide +kernel
theorem dX3_init_21 : decode cX3_init 21 = .ok (.putfield 19, 3) := by decide +kernel
theorem dX3_init_24 : decode cX3_init 24 = .ok (.aload_n 0, 1) := by decide +kernel
theorem dX3_init_25 : decode cX3_init 25 = .ok (.bipush 16, 2) := by decide +kernel
theorem dX3_init_27 : decode cX3_init 27 = .ok (.anewarray 22, 3) := by decide +kernel
theorem dX3_init_30 : decode cX3_init 30 = .ok (.putfield 24, 3) := by decide +kernel
theorem dX3_init_33 : decode cX3_init 33 = .ok (.aload_n 0, 1) := by decide +kernel
theorem dX3_init_34 : decode cX3_init 34 = .ok (.iconst 0, 1) := by decide +kernel
theorem dX3_init_35 : decode cX3_init 35 = .ok (.putfield 28, 3) := by decide +kernel
theorem dX3_init_38 : decode cX3_init 38 = .ok (.aload_n 0, 1) := by decide +kernel
theorem dX3_init_39 : decode cX3_init 39 = .ok (.iconst 0, 1) := by decide +kernel
theorem dX3_init_40 : decode cX3_init 40 = .ok (.putfield 31, 3) := by decide +kernel
theorem dX3_init_43 : decode cX3_init 43 = .ok (.aload_n 0, 1) := by decide +kernel
theorem dX3_init_44 : decode cX3_init 44 = .ok (.iconst 0, 1) := by decide +kernel
theorem dX3_init_45 : decode cX3_init 45 = .ok (.putfield 34, 3) := by decide +kernel
theorem dX3_init_48 : decode cX3_init 48 = .ok (.aload_n 0, 1) := by decide +kernel
theorem dX3_init_49 : decode cX3_init 49 = .ok (.bipush 10, 2) := by decide +kernel
theorem dX3_init_51 : decode cX3_init 51 = .ok (.newarray .int, 2) := by decide +kernel
theorem dX3_init_53 : decode cX3_init 53 = .ok (.putfield 37, 3) := by decide +kernel
theorem dX3_init_56 : decode cX3_init 56 = .ok (.aload_n 0, 1) := by decide +kernel
theorem dX3_init_57 : decode cX3_init 57 = .ok (.bipush 30, 2) := by decide +kernel
theorem dX3_init_59 : decode cX3_init 59 = .ok (.bipush 8, 2) := by decide +kernel
theorem dX3_init_61 : decode cX3_init 61 = .ok (.multianewarray 41 2, 4) := by decide +kernel
theorem dX3_init_65 : decode cX3_init 65 = .ok (.putfield 43, 3) := by decide +kernel
theorem dX3_init_68 : decode cX3_init 68 = .ok (.aload_n 0, 1) := by decide +kernel
theorem dX3_init_69 : decode cX3_init 69 = .ok (.iconst 0, 1) := by decide +kernel
theorem dX3_init_70 : decode cX3_init 70 = .ok (.putfield 46, 3) := by decide +kernel
theorem dX3_init_73 : decode cX3_init 73 = .ok (.iconst 0, 1) := by decide +kernel
theorem dX3_init_74 : decode cX3_init 74 = .ok (.istore_n 1, 1) := by decide +kernel
theorem dX3_init_75 : decode cX3_init 75 = .ok (.iload_n 1, 1) := by decide +kernel
theorem dX3_init_76 : decode cX3_init 76 = .ok (.bipush 16, 2) := by decide +kernel
theorem dX3_init_78 : decode cX3_init 78 = .ok (.if_icmp .ge 22, 3) := by decide +kernel
theorem dX3_init_81 : decode cX3_init 81 = .ok (.aload_n 0, 1) := by decide +kernel
theorem dX3_init_82 : decode cX3_init 82 = .ok (.getfield 24, 3) := by decide +kernel
theorem dX3_init_85 : decode cX3_init 85 = .ok (.iload_n 1, 1) := by decide +kernel
theorem dX3_init_86 : decode cX3_init 86 = .ok (.new 22, 3) := by decide +kernel
theorem dX3_init_89 : decode cX3_init 89 = .ok (.dup, 1) := by decide +kernel
theorem dX3_init_90 : decode cX3_init 90 = .ok (.invokespecial 49, 3) := by decide +kernel
theorem dX3_init_93 : decode cX3_init 93 = .ok (.aastore, 1) := by decide +kernel
theorem dX3_init_94 : decode cX3_init 94 = .ok (.iinc 1 1, 3) := by decide +kernel
theorem dX3_init_97 : decode cX3_init 97 = .ok (.goto (-22), 3) := by decide +kernel
theorem dX3_init_100 : decode cX3_init 100 = .ok (.return_, 1) := by decide +kernel
theorem dX3_object_0 : decode cX3_object 0 = .ok (.aload_n 0, 1) := by decide +kernel
theorem dX3_object_1 : decode cX3_object 1 = .ok (.getfield 15, 3) := by decide +kernel
theorem dX3_object_4 : decode cX3_object 4 = .ok (.sipush 200, 3) := by decide +kernel
theorem dX3_object_7 : decode cX3_object 7 = .ok (.if_icmp .lt 13, 3) := by decide +kernel
theorem dX3_object_10 : decode cX3_object 10 = .ok (.new 50, 3) := by decide +kernel
theorem dX3_object_13 : decode cX3_object 13 = .ok (.dup, 1) := by decide +kernel
theorem dX3_object_14 : decode cX3_object 14 = .ok (.ldc 52, 2) := by decide +kernel
theorem dX3_object_16 : decode cX3_object 16 = .ok (.invokespecial 54, 3) := by decide +kernel
theorem dX3_object_19 : decode cX3_object 19 = .ok (.athrow, 1) := by decide +kernel
theorem dX3_object_20 : decode cX3_object 20 = .ok (.new 9, 3) := by decide +kernel
theorem dX3_object_23 : decode cX3_object 23 = .ok (.dup, 1) := by decide +kernel
theorem dX3_object_24 : decode cX3_object 24 = .ok (.aload_n 0, 1) := by decide +kernel
theorem dX3_object_25 : decode cX3_object 25 = .ok (.getfield 19, 3) := by decide +kernel
theorem dX3_object_28 : decode cX3_object 28 = .ok (.iload_n 1, 1) := by decide +kernel
theorem dX3_object_29 : decode cX3_object 29 = .ok (.invokespecial 57, 3) := by decide +kernel
theorem dX3_object_32 : decode cX3_object 32 = .ok (.astore_n 2, 1) := by decide +kernel
theorem dX3_object_33 : decode cX3_object 33 = .ok (.aload_n 0, 1) := by decide +kernel
theorem dX3_object_34 : decode cX3_object 34 = .ok (.getfield 11, 3) := by decide +kernel
theorem dX3_object_37 : decode cX3_object 37 = .ok (.aload_n 0, 1) := by decide +kernel
theorem dX3_object_38 : decode cX3_object 38 = .ok (.getfield 15, 3) := by decide +kernel
theorem dX3_object_41 : decode cX3_object 41 = .ok (.aload_n 2, 1) := by decide +kernel
theorem dX3_object_42 : decode cX3_object 42 = .ok (.aastore, 1) := by decide +kernel
theorem dX3_object_43 : decode cX3_object 43 = .ok (.aload_n 0, 1) := by decide +kernel
theorem dX3_object_44 : decode cX3_object 44 = .ok (.dup, 1) := by decide +kernel
theorem dX3_object_45 : decode cX3_object 45 = .ok (.getfield 15, 3) := by decide +kernel
theorem dX3_object_48 : decode cX3_object 48 = .ok (.iconst 1, 1) := by decide +kernel
theorem dX3_object_49 : decode cX3_object 49 = .ok (.iadd, 1) := by decide +kernel
theorem dX3_object_50 : decode cX3_object 50 = .ok (.putfield 15, 3) := by decide +kernel
theorem dX3_object_53 : decode cX3_object 53 = .ok (.aload_n 0, 1) := by decide +kernel
theorem dX3_object_54 : decode cX3_object 54 = .ok (.dup, 1) := by decide +kernel
theorem dX3_object_55 : decode cX3_object 55 = .ok (.getfield 19, 3) := by decide +kernel
theorem dX3_object_58 : decode cX3_object 58 = .ok (.iconst 1, 1) := by decide +kernel
theorem dX3_object_59 : decode cX3_object 59 = .ok (.iadd, 1) := by decide +kernel
theorem dX3_object_60 : decode cX3_object 60 = .ok (.putfield 19, 3) := by decide +kernel
theorem dX3_object_63 : decode cX3_object 63 = .ok (.aload_n 2, 1) := by decide +kernel
theorem dX3_object_64 : decode cX3_object 64 = .ok (.getfield 60, 3) := by decide +kernel
theorem dX3_object_67 : decode cX3_object 67 = .ok (.ireturn, 1) := by decide +kernel
theorem dX3_put_0 : decode cX3_put 0 = .ok (.aload_n 0, 1) := by decide +kernel
theorem dX3_put_1 : decode cX3_put 1 = .ok (.iload_n 1, 1) := by decide +kernel
theorem dX3_put_2 : decode cX3_put 2 = .ok (.invokevirtual 63, 3) := by decide +kernel
theorem dX3_put_5 : decode cX3_put 5 = .ok (.astore 4, 2) := by decide +kernel
theorem dX3_put_7 : decode cX3_put 7 = .ok (.aload_n 0, 1) := by decide +kernel
theorem dX3_put_8 : decode cX3_put 8 = .ok (.iload_n 3, 1) := by decide +kernel
theorem dX3_put_9 : decode cX3_put 9 = .ok (.invokevirtual 67, 3) := by decide +kernel
theorem dX3_put_12 : decode cX3_put 12 = .ok (.iload_n 2, 1) := by decide +kernel
theorem dX3_put_13 : decode cX3_put 13 = .ok (.bipush 8, 2) := by decide +kernel
theorem dX3_put_15 : decode cX3_put 15 = .ok (.invokestatic 71, 3) := by decide +kernel
theorem dX3_put_18 : decode cX3_put 18 = .ok (.aload 4, 2) := by decide +kernel
theorem dX3_put_20 : decode cX3_put 20 = .ok (.getfield 75, 3) := by decide +kernel
theorem dX3_put_23 : decode cX3_put 23 = .ok (.ifCond .eq 21, 3) := by decide +kernel
theorem dX3_put_26 : decode cX3_put 26 = .ok (.aload_n 0, 1) := by decide +kernel
theorem dX3_put_27 : decode cX3_put 27 = .ok (.iload_n 3, 1) := by decide +kernel
theorem dX3_put_28 : decode cX3_put 28 = .ok (.invokevirtual 79, 3) := by decide +kernel
theorem dX3_put_31 : decode cX3_put 31 = .ok (.ifCond .eq 13, 3) := by decide +kernel
theorem dX3_put_34 : decode cX3_put 34 = .ok (.new 83, 3) := by decide +kernel
theorem dX3_put_37 : decode cX3_put 37 = .ok (.dup, 1) := by decide +kernel
theorem dX3_put_38 : decode cX3_put 38 = .ok (.ldc 85, 2) := by decide +kernel
theorem dX3_put_40 : decode cX3_put 40 = .ok (.invokespecial 87, 3) := by decide +kernel
theorem dX3_put_43 : decode cX3_put 43 = .ok (.athrow, 1) := by decide +kernel
theorem dX3_put_44 : decode cX3_put 44 = .ok (.aload_n 0, 1) := by decide +kernel
theorem dX3_put_45 : decode cX3_put 45 = .ok (.aload 4, 2) := by decide +kernel
theorem dX3_put_47 : decode cX3_put 47 = .ok (.iload_n 2, 1) := by decide +kernel
theorem dX3_put_48 : decode cX3_put 48 = .ok (.invokevirtual 88, 3) := by decide +kernel
theorem dX3_put_51 : decode cX3_put 51 = .ok (.aload 4, 2) := by decide +kernel
theorem dX3_put_53 : decode cX3_put 53 = .ok (.getfield 92, 3) := by decide +kernel
theorem dX3_put_56 : decode cX3_put 56 = .ok (.iload_n 2, 1) := by decide +kernel
theorem dX3_put_57 : decode cX3_put 57 = .ok (.iaload, 1) := by decide +kernel
theorem dX3_put_58 : decode cX3_put 58 = .ok (.istore 5, 2) := by decide +kernel
theorem dX3_put_60 : decode cX3_put 60 = .ok (.aload 4, 2) := by decide +kernel
theorem dX3_put_62 : decode cX3_put 62 = .ok (.getfield 92, 3) := by decide +kernel
theorem dX3_put_65 : decode cX3_put 65 = .ok (.iload_n 2, 1) := by decide +kernel
theorem dX3_put_66 : decode cX3_put 66 = .ok (.iload_n 3, 1) := by decide +kernel
theorem dX3_put_67 : decode cX3_put 67 = .ok (.iastore, 1) := by decide +kernel
theorem dX3_put_68 : decode cX3_put 68 = .ok (.iload 5, 2) := by decide +kernel
theorem dX3_put_70 : decode cX3_put 70 = .ok (.ireturn, 1) := by decide +kernel
theorem dX3_get_0 : decode cX3_get 0 = .ok (.aload_n 0, 1) := by decide +kernel
theorem dX3_get_1 : decode cX3_get 1 = .ok (.iload_n 1, 1) := by decide +kernel
theorem dX3_get_2 : decode cX3_get 2 = .ok (.invokevirtual 63, 3) := by decide +kernel
theorem dX3_get_5 : decode cX3_get 5 = .ok (.astore_n 3, 1) := by decide +kernel
theorem dX3_get_6 : decode cX3_get 6 = .ok (.iload_n 2, 1) := by decide +kernel
theorem dX3_get_7 : decode cX3_get 7 = .ok (.bipush 8, 2) := by decide +kernel
theorem dX3_get_9 : decode cX3_get 9 = .ok (.invokestatic 71, 3) := by decide +kernel
theorem dX3_get_12 : decode cX3_get 12 = .ok (.aload_n 3, 1) := by decide +kernel
theorem dX3_get_13 : decode cX3_get 13 = .ok (.getfield 92, 3) := by decide +kernel
theorem dX3_get_16 : decode cX3_get 16 = .ok (.iload_n 2, 1) := by decide +kernel
theorem dX3_get_17 : decode cX3_get 17 = .ok (.iaload, 1) := by decide +kernel
theorem dX3_get_18 : decode cX3_get 18 = .ok (.ireturn, 1) := by decide +kernel
theorem dX3_save_0 : decode cX3_save 0 = .ok (.aload_n 0, 1) := by decide +kernel
theorem dX3_save_1 : decode cX3_save 1 = .ok (.getfield 28, 3) := by decide +kernel
theorem dX3_save_4 : decode cX3_save 4 = .ok (.bipush 16, 2) := by decide +kernel
theorem dX3_save_6 : decode cX3_save 6 = .ok (.if_icmp .lt 13, 3) := by decide +kernel
theorem dX3_save_9 : decode cX3_save 9 = .ok (.new 50, 3) := by decide +kernel
theorem dX3_save_12 : decode cX3_save 12 = .ok (.dup, 1) := by decide +kernel
theorem dX3_save_13 : decode cX3_save 13 = .ok (.ldc 95, 2) := by decide +kernel
theorem dX3_save_15 : decode cX3_save 15 = .ok (.invokespecial 54, 3) := by decide +kernel
theorem dX3_save_18 : decode cX3_save 18 = .ok (.athrow, 1) := by decide +kernel
theorem dX3_save_19 : decode cX3_save 19 = .ok (.aload_n 0, 1) := by decide +kernel
theorem dX3_save_20 : decode cX3_save 20 = .ok (.dup, 1) := by decide +kernel
theorem dX3_save_21 : decode cX3_save 21 = .ok (.getfield 31, 3) := by decide +kernel
theorem dX3_save_24 : decode cX3_save 24 = .ok (.iconst 1, 1) := by decide +kernel
theorem dX3_save_25 : decode cX3_save 25 = .ok (.iadd, 1) := by decide +kernel
theorem dX3_save_26 : decode cX3_save 26 = .ok (.putfield 31, 3) := by decide +kernel
theorem dX3_save_29 : decode cX3_save 29 = .ok (.aload_n 0, 1) := by decide +kernel
theorem dX3_save_30 : decode cX3_save 30 = .ok (.getfield 24, 3) := by decide +kernel
theorem dX3_save_33 : decode cX3_save 33 = .ok (.aload_n 0, 1) := by decide +kernel
theorem dX3_save_34 : decode cX3_save 34 = .ok (.getfield 28, 3) := by decide +kernel
theorem dX3_save_37 : decode cX3_save 37 = .ok (.aaload, 1) := by decide +kernel
theorem dX3_save_38 : decode cX3_save 38 = .ok (.astore_n 1, 1) := by decide +kernel
theorem dX3_save_39 : decode cX3_save 39 = .ok (.aload_n 1, 1) := by decide +kernel
theorem dX3_save_40 : decode cX3_save 40 = .ok (.aload_n 0, 1) := by decide +kernel
theorem dX3_save_41 : decode cX3_save 41 = .ok (.getfield 31, 3) := by decide +kernel
theorem dX3_save_44 : decode cX3_save 44 = .ok (.putfield 97, 3) := by decide +kernel
theorem dX3_save_47 : decode cX3_save 47 = .ok (.aload_n 1, 1) := by decide +kernel
theorem dX3_save_48 : decode cX3_save 48 = .ok (.aload_n 0, 1) := by decide +kernel
theorem dX3_save_49 : decode cX3_save 49 = .ok (.getfield 19, 3) := by decide +kernel
theorem dX3_save_52 : decode cX3_save 52 = .ok (.putfield 98, 3) := by decide +kernel
theorem dX3_save_55 : decode cX3_save 55 = .ok (.aload_n 1, 1) := by decide +kernel
theorem dX3_save_56 : decode cX3_save 56 = .ok (.aload_n 0, 1) := by decide +kernel
theorem dX3_save_57 : decode cX3_save 57 = .ok (.getfield 46, 3) := by decide +kernel
theorem dX3_save_60 : decode cX3_save 60 = .ok (.putfield 101, 3) := by decide +kernel
theorem dX3_save_63 : decode cX3_save 63 = .ok (.aload_n 0, 1) := by decide +kernel
theorem dX3_save_64 : decode cX3_save 64 = .ok (.getfield 37, 3) := by decide +kernel
theorem dX3_save_67 : decode cX3_save 67 = .ok (.iconst 0, 1) := by decide +kernel
theorem dX3_save_68 : decode cX3_save 68 = .ok (.aload_n 1, 1) := by decide +kernel
theorem dX3_save_69 : decode cX3_save 69 = .ok (.getfield 104, 3) := by decide +kernel
theorem dX3_save_72 : decode cX3_save 72 = .ok (.iconst 0, 1) := by decide +kernel
theorem dX3_save_73 : decode cX3_save 73 = .ok (.bipush 8, 2) := by decide +kernel
theorem dX3_save_75 : decode cX3_save 75 = .ok (.invokestatic 105, 3) := by decide +kernel
theorem dX3_save_78 : decode cX3_save 78 = .ok (.aload_n 0, 1) := by decide +kernel
theorem dX3_save_79 : decode cX3_save 79 = .ok (.dup, 1) := by decide +kernel
theorem dX3_save_80 : decode cX3_save 80 = .ok (.getfield 28, 3) := by decide +kernel
theorem dX3_save_83 : decode cX3_save 83 = .ok (.iconst 1, 1) := by decide +kernel
theorem dX3_save_84 : decode cX3_save 84 = .ok (.iadd, 1) := by decide +kernel
theorem dX3_save_85 : decode cX3_save 85 = .ok (.putfield 28, 3) := by decide +kernel
theorem dX3_save_88 : decode cX3_save 88 = .ok (.aload_n 0, 1) := by decide +kernel
theorem dX3_save_89 : decode cX3_save 89 = .ok (.aload_n 0, 1) := by decide +kernel
theorem dX3_save_90 : decode cX3_save 90 = .ok (.getfield 34, 3) := by decide +kernel
theorem dX3_save_93 : decode cX3_save 93 = .ok (.aload_n 0, 1) := by decide +kernel
theorem dX3_save_94 : decode cX3_save 94 = .ok (.getfield 28, 3) := by decide +kernel
theorem dX3_save_97 : decode cX3_save 97 = .ok (.invokestatic 111, 3) := by decide +kernel
theorem dX3_save_100 : decode cX3_save 100 = .ok (.putfield 34, 3) := by decide +kernel
theorem dX3_save_103 : decode cX3_save 103 = .ok (.aload_n 0, 1) := by decide +kernel
theorem dX3_save_104 : decode cX3_save 104 = .ok (.getfield 31, 3) := by decide +kernel
theorem dX3_save_107 : decode cX3_save 107 = .ok (.ireturn, 1) := by decide +kernel
theorem dX3_restore_0 : decode cX3_restore 0 = .ok (.iload_n 1, 1) := by decide +kernel
theorem dX3_restore_1 : decode cX3_restore 1 = .ok (.iconst 1, 1) := by decide +kernel
theorem dX3_restore_2 : decode cX3_restore 2 = .ok (.if_icmp .lt 11, 3) := by decide +kernel
theorem dX3_restore_5 : decode cX3_restore 5 = .ok (.iload_n 1, 1) := by decide +kernel
theorem dX3_restore_6 : decode cX3_restore 6 = .ok (.aload_n 0, 1) := by decide +kernel
theorem dX3_restore_7 : decode cX3_restore 7 = .ok (.getfield 31, 3) := by decide +kernel
theorem dX3_restore_10 : decode cX3_restore 10 = .ok (.if_icmp .le 5, 3) := by decide +kernel
theorem dX3_restore_13 : decode cX3_restore 13 = .ok (.iconst (-1), 1) := by decide +kernel
theorem dX3_restore_14 : decode cX3_restore 14 = .ok (.ireturn, 1) := by decide +kernel
theorem dX3_restore_15 : decode cX3_restore 15 = .ok (.aload_n 0, 1) := by decide +kernel
theorem dX3_restore_16 : decode cX3_restore 16 = .ok (.iload_n 1, 1) := by decide +kernel
theorem dX3_restore_17 : decode cX3_restore 17 = .ok (.invokevirtual 117, 3) := by decide +kernel
theorem dX3_restore_20 : decode cX3_restore 20 = .ok (.istore_n 2, 1) := by decide +kernel
theorem dX3_restore_21 : decode cX3_restore 21 = .ok (.iload_n 2, 1) := by decide +kernel
theorem dX3_restore_22 : decode cX3_restore 22 = .ok (.ifCond .ge 6, 3) := by decide +kernel
theorem dX3_restore_25 : decode cX3_restore 25 = .ok (.bipush (-2), 2) := by decide +kernel
theorem dX3_restore_27 : decode cX3_restore 27 = .ok (.ireturn, 1) := by decide +kernel
theorem dX3_restore_28 : decode cX3_restore 28 = .ok (.iload_n 2, 1) := by decide +kernel
theorem dX3_restore_29 : decode cX3_restore 29 = .ok (.aload_n 0, 1) := by decide +kernel
theorem dX3_restore_30 : decode cX3_restore 30 = .ok (.getfield 28, 3) := by decide +kernel
theorem dX3_restore_33 : decode cX3_restore 33 = .ok (.iconst 1, 1) := by decide +kernel
theorem dX3_restore_34 : decode cX3_restore 34 = .ok (.isub, 1) := by decide +kernel
theorem dX3_restore_35 : decode cX3_restore 35 = .ok (.if_icmp .ge 6, 3) := by decide +kernel
theorem dX3_restore_38 : decode cX3_restore 38 = .ok (.bipush (-3), 2) := by decide +kernel
theorem dX3_restore_40 : decode cX3_restore 40 = .ok (.ireturn, 1) := by decide +kernel
theorem dX3_restore_41 : decode cX3_restore 41 = .ok (.aload_n 0, 1) := by decide +kernel
theorem dX3_restore_42 : decode cX3_restore 42 = .ok (.aload_n 0, 1) := by decide +kernel
theorem dX3_restore_43 : decode cX3_restore 43 = .ok (.getfield 24, 3) := by decide +kernel
theorem dX3_restore_46 : decode cX3_restore 46 = .ok (.iload_n 2, 1) := by decide +kernel
theorem dX3_restore_47 : decode cX3_restore 47 = .ok (.aaload, 1) := by decide +kernel
theorem dX3_restore_48 : decode cX3_restore 48 = .ok (.invokevirtual 121, 3) := by decide +kernel
theorem dX3_restore_51 : decode cX3_restore 51 = .ok (.ifCond .eq 6, 3) := by decide +kernel
theorem dX3_restore_54 : decode cX3_restore 54 = .ok (.bipush (-4), 2) := by decide +kernel
theorem dX3_restore_56 : decode cX3_restore 56 = .ok (.ireturn, 1) := by decide +kernel
theorem dX3_restore_57 : decode cX3_restore 57 = .ok (.aload_n 0, 1) := by decide +kernel
theorem dX3_restore_58 : decode cX3_restore 58 = .ok (.aload_n 0, 1) := by decide +kernel
theorem dX3_restore_59 : decode cX3_restore 59 = .ok (.getfield 24, 3) := by decide +kernel
theorem dX3_restore_62 : decode cX3_restore 62 = .ok (.iload_n 2, 1) := by decide +kernel
theorem dX3_restore_63 : decode cX3_restore 63 = .ok (.aaload, 1) := by decide +kernel
theorem dX3_restore_64 : decode cX3_restore 64 = .ok (.invokevirtual 125, 3) := by decide +kernel
theorem dX3_restore_67 : decode cX3_restore 67 = .ok (.aload_n 0, 1) := by decide +kernel
theorem dX3_restore_68 : decode cX3_restore 68 = .ok (.dup, 1) := by decide +kernel
theorem dX3_restore_69 : decode cX3_restore 69 = .ok (.getfield 28, 3) := by decide +kernel
theorem dX3_restore_72 : decode cX3_restore 72 = .ok (.iconst 1, 1) := by decide +kernel
theorem dX3_restore_73 : decode cX3_restore 73 = .ok (.isub, 1) := by decide +kernel
theorem dX3_restore_74 : decode cX3_restore 74 = .ok (.putfield 28, 3) := by decide +kernel
theorem dX3_restore_77 : decode cX3_restore 77 = .ok (.iconst 1, 1) := by decide +kernel
theorem dX3_restore_78 : decode cX3_restore 78 = .ok (.ireturn, 1) := by decide +kernel
theorem dX3_state_0 : decode cX3_state 0 = .ok (.aload_n 0, 1) := by decide +kernel
theorem dX3_state_1 : decode cX3_state 1 = .ok (.iload_n 2, 1) := by decide +kernel
theorem dX3_state_2 : decode cX3_state 2 = .ok (.invokevirtual 67, 3) := by decide +kernel
theorem dX3_state_5 : decode cX3_state 5 = .ok (.iload_n 1, 1) := by decide +kernel
theorem dX3_state_6 : decode cX3_state 6 = .ok (.bipush 10, 2) := by decide +kernel
theorem dX3_state_8 : decode cX3_state 8 = .ok (.invokestatic 71, 3) := by decide +kernel
theorem dX3_state_11 : decode cX3_state 11 = .ok (.aload_n 0, 1) := by decide +kernel
theorem dX3_state_12 : decode cX3_state 12 = .ok (.getfield 37, 3) := by decide +kernel
theorem dX3_state_15 : decode cX3_state 15 = .ok (.iload_n 1, 1) := by decide +kernel
theorem dX3_state_16 : decode cX3_state 16 = .ok (.iaload, 1) := by decide +kernel
theorem dX3_state_17 : decode cX3_state 17 = .ok (.istore_n 3, 1) := by decide +kernel
theorem dX3_state_18 : decode cX3_state 18 = .ok (.aload_n 0, 1) := by decide +kernel
theorem dX3_state_19 : decode cX3_state 19 = .ok (.getfield 37, 3) := by decide +kernel
theorem dX3_state_22 : decode cX3_state 22 = .ok (.iload_n 1, 1) := by decide +kernel
theorem dX3_state_23 : decode cX3_state 23 = .ok (.iload_n 2, 1) := by decide +kernel
theorem dX3_state_24 : decode cX3_state 24 = .ok (.iastore, 1) := by decide +kernel
theorem dX3_state_25 : decode cX3_state 25 = .ok (.iload_n 3, 1) := by decide +kernel
theorem dX3_state_26 : decode cX3_state 26 = .ok (.ireturn, 1) := by decide +kernel
theorem dX3_stateOf_0 : decode cX3_stateOf 0 = .ok (.iload_n 1, 1) := by decide +kernel
theorem dX3_stateOf_1 : decode cX3_stateOf 1 = .ok (.bipush 10, 2) := by decide +kernel
theorem dX3_stateOf_3 : decode cX3_stateOf 3 = .ok (.invokestatic 71, 3) := by decide +kernel
theorem dX3_stateOf_6 : decode cX3_stateOf 6 = .ok (.aload_n 0, 1) := by decide +kernel
theorem dX3_stateOf_7 : decode cX3_stateOf 7 = .ok (.getfield 37, 3) := by decide +kernel
theorem dX3_stateOf_10 : decode cX3_stateOf 10 = .ok (.iload_n 1, 1) := by decide +kernel
theorem dX3_stateOf_11 : decode cX3_stateOf 11 = .ok (.iaload, 1) := by decide +kernel
theorem dX3_stateOf_12 : decode cX3_stateOf 12 = .ok (.ireturn, 1) := by decide +kernel
theorem dX3_push_0 : decode cX3_push 0 = .ok (.aload_n 0, 1) := by decide +kernel
theorem dX3_push_1 : decode cX3_push 1 = .ok (.getfield 46, 3) := by decide +kernel
theorem dX3_push_4 : decode cX3_push 4 = .ok (.bipush 30, 2) := by decide +kernel
theorem dX3_push_6 : decode cX3_push 6 = .ok (.if_icmp .lt 13, 3) := by decide +kernel
theorem dX3_push_9 : decode cX3_push 9 = .ok (.new 50, 3) := by decide +kernel
theorem dX3_push_12 : decode cX3_push 12 = .ok (.dup, 1) := by decide +kernel
theorem dX3_push_13 : decode cX3_push 13 = .ok (.ldc 129, 2) := by decide +kernel
theorem dX3_push_15 : decode cX3_push 15 = .ok (.invokespecial 54, 3) := by decide +kernel
theorem dX3_push_18 : decode cX3_push 18 = .ok (.athrow, 1) := by decide +kernel
theorem dX3_push_19 : decode cX3_push 19 = .ok (.aload_n 0, 1) := by decide +kernel
theorem dX3_push_20 : decode cX3_push 20 = .ok (.getfield 37, 3) := by decide +kernel
theorem dX3_push_23 : decode cX3_push 23 = .ok (.iconst 0, 1) := by decide +kernel
theorem dX3_push_24 : decode cX3_push 24 = .ok (.aload_n 0, 1) := by decide +kernel
theorem dX3_push_25 : decode cX3_push 25 = .ok (.getfield 43, 3) := by decide +kernel
theorem dX3_push_28 : decode cX3_push 28 = .ok (.aload_n 0, 1) := by decide +kernel
theorem dX3_push_29 : decode cX3_push 29 = .ok (.getfield 46, 3) := by decide +kernel
theorem dX3_push_32 : decode cX3_push 32 = .ok (.aaload, 1) := by decide +kernel
theorem dX3_push_33 : decode cX3_push 33 = .ok (.iconst 0, 1) := by decide +kernel
theorem dX3_push_34 : decode cX3_push 34 = .ok (.bipush 8, 2) := by decide +kernel
theorem dX3_push_36 : decode cX3_push 36 = .ok (.invokestatic 105, 3) := by decide +kernel
theorem dX3_push_39 : decode cX3_push 39 = .ok (.aload_n 0, 1) := by decide +kernel
theorem dX3_push_40 : decode cX3_push 40 = .ok (.dup, 1) := by decide +kernel
theorem dX3_push_41 : decode cX3_push 41 = .ok (.getfield 46, 3) := by decide +kernel
theorem dX3_push_44 : decode cX3_push 44 = .ok (.iconst 1, 1) := by decide +kernel
theorem dX3_push_45 : decode cX3_push 45 = .ok (.iadd, 1) := by decide +kernel
theorem dX3_push_46 : decode cX3_push 46 = .ok (.putfield 46, 3) := by decide +kernel
theorem dX3_push_49 : decode cX3_push 49 = .ok (.aload_n 0, 1) := by decide +kernel
theorem dX3_push_50 : decode cX3_push 50 = .ok (.invokevirtual 131, 3) := by decide +kernel
theorem dX3_push_53 : decode cX3_push 53 = .ok (.ireturn, 1) := by decide +kernel
theorem dX3_pop_0 : decode cX3_pop 0 = .ok (.aload_n 0, 1) := by decide +kernel
theorem dX3_pop_1 : decode cX3_pop 1 = .ok (.invokevirtual 131, 3) := by decide +kernel
theorem dX3_pop_4 : decode cX3_pop 4 = .ok (.ifCond .gt 5, 3) := by decide +kernel
theorem dX3_pop_7 : decode cX3_pop 7 = .ok (.iconst (-1), 1) := by decide +kernel
theorem dX3_pop_8 : decode cX3_pop 8 = .ok (.ireturn, 1) := by decide +kernel
theorem dX3_pop_9 : decode cX3_pop 9 = .ok (.aload_n 0, 1) := by decide +kernel
theorem dX3_pop_10 : decode cX3_pop 10 = .ok (.dup, 1) := by decide +kernel
theorem dX3_pop_11 : decode cX3_pop 11 = .ok (.getfield 46, 3) := by decide +kernel
theorem dX3_pop_14 : decode cX3_pop 14 = .ok (.iconst 1, 1) := by decide +kernel
theorem dX3_pop_15 : decode cX3_pop 15 = .ok (.isub, 1) := by decide +kernel
theorem dX3_pop_16 : decode cX3_pop 16 = .ok (.putfield 46, 3) := by decide +kernel
theorem dX3_pop_19 : decode cX3_pop 19 = .ok (.aload_n 0, 1) := by decide +kernel
theorem dX3_pop_20 : decode cX3_pop 20 = .ok (.getfield 43, 3) := by decide +kernel
theorem dX3_pop_23 : decode cX3_pop 23 = .ok (.aload_n 0, 1) := by decide +kernel
theorem dX3_pop_24 : decode cX3_pop 24 = .ok (.getfield 46, 3) := by decide +kernel
theorem dX3_pop_27 : decode cX3_pop 27 = .ok (.aaload, 1) := by decide +kernel
theorem dX3_pop_28 : decode cX3_pop 28 = .ok (.iconst 0, 1) := by decide +kernel
theorem dX3_pop_29 : decode cX3_pop 29 = .ok (.aload_n 0, 1) := by decide +kernel
theorem dX3_pop_30 : decode cX3_pop 30 = .ok (.getfield 37, 3) := by decide +kernel
theorem dX3_pop_33 : decode cX3_pop 33 = .ok (.iconst 0, 1) := by decide +kernel
theorem dX3_pop_34 : decode cX3_pop 34 = .ok (.bipush 8, 2) := by decide +kernel
theorem dX3_pop_36 : decode cX3_pop 36 = .ok (.invokestatic 105, 3) := by decide +kernel
theorem dX3_pop_39 : decode cX3_pop 39 = .ok (.aload_n 0, 1) := by decide +kernel
theorem dX3_pop_40 : decode cX3_pop 40 = .ok (.invokevirtual 131, 3) := by decide +kernel
theorem dX3_pop_43 : decode cX3_pop 43 = .ok (.ireturn, 1) := by decide +kernel
theorem dX3_bytes_0 : decode cX3_bytes 0 = .ok (.aload_n 0, 1) := by decide +kernel
theorem dX3_bytes_1 : decode cX3_bytes 1 = .ok (.iload_n 1, 1) := by decide +kernel
theorem dX3_bytes_2 : decode cX3_bytes 2 = .ok (.invokevirtual 63, 3) := by decide +kernel
theorem dX3_bytes_5 : decode cX3_bytes 5 = .ok (.astore 4, 2) := by decide +kernel
theorem dX3_bytes_7 : decode cX3_bytes 7 = .ok (.iload_n 2, 1) := by decide +kernel
theorem dX3_bytes_8 : decode cX3_bytes 8 = .ok (.bipush 8, 2) := by decide +kernel
theorem dX3_bytes_10 : decode cX3_bytes 10 = .ok (.invokestatic 71, 3) := by decide +kernel
theorem dX3_bytes_13 : decode cX3_bytes 13 = .ok (.iload_n 3, 1) := by decide +kernel
theorem dX3_bytes_14 : decode cX3_bytes 14 = .ok (.iconst (-1), 1) := by decide +kernel
theorem dX3_bytes_15 : decode cX3_bytes 15 = .ok (.if_icmp .lt 10, 3) := by decide +kernel
theorem dX3_bytes_18 : decode cX3_bytes 18 = .ok (.iload_n 3, 1) := by decide +kernel
theorem dX3_bytes_19 : decode cX3_bytes 19 = .ok (.sipush 255, 3) := by decide +kernel
theorem dX3_bytes_22 : decode cX3_bytes 22 = .ok (.if_icmp .le 13, 3) := by decide +kernel
theorem dX3_bytes_25 : decode cX3_bytes 25 = .ok (.new 135, 3) := by decide +kernel
theorem dX3_bytes_28 : decode cX3_bytes 28 = .ok (.dup, 1) := by decide +kernel
theorem dX3_bytes_29 : decode cX3_bytes 29 = .ok (.ldc 137, 2) := by decide +kernel
theorem dX3_bytes_31 : decode cX3_bytes 31 = .ok (.invokespecial 139, 3) := by decide +kernel
theorem dX3_bytes_34 : decode cX3_bytes 34 = .ok (.athrow, 1) := by decide +kernel
theorem dX3_bytes_35 : decode cX3_bytes 35 = .ok (.aload 4, 2) := by decide +kernel
theorem dX3_bytes_37 : decode cX3_bytes 37 = .ok (.getfield 140, 3) := by decide +kernel
theorem dX3_bytes_40 : decode cX3_bytes 40 = .ok (.iload_n 2, 1) := by decide +kernel
theorem dX3_bytes_41 : decode cX3_bytes 41 = .ok (.iaload, 1) := by decide +kernel
theorem dX3_bytes_42 : decode cX3_bytes 42 = .ok (.istore 5, 2) := by decide +kernel
theorem dX3_bytes_44 : decode cX3_bytes 44 = .ok (.iload_n 3, 1) := by decide +kernel
theorem dX3_bytes_45 : decode cX3_bytes 45 = .ok (.iconst (-1), 1) := by decide +kernel
theorem dX3_bytes_46 : decode cX3_bytes 46 = .ok (.if_icmp .eq 11, 3) := by decide +kernel
theorem dX3_bytes_49 : decode cX3_bytes 49 = .ok (.aload 4, 2) := by decide +kernel
theorem dX3_bytes_51 : decode cX3_bytes 51 = .ok (.getfield 140, 3) := by decide +kernel
theorem dX3_bytes_54 : decode cX3_bytes 54 = .ok (.iload_n 2, 1) := by decide +kernel
theorem dX3_bytes_55 : decode cX3_bytes 55 = .ok (.iload_n 3, 1) := by decide +kernel
theorem dX3_bytes_56 : decode cX3_bytes 56 = .ok (.iastore, 1) := by decide +kernel
theorem dX3_bytes_57 : decode cX3_bytes 57 = .ok (.iload 5, 2) := by decide +kernel
theorem dX3_bytes_59 : decode cX3_bytes 59 = .ok (.ireturn, 1) := by decide +kernel
theorem dX3_used_0 : decode cX3_used 0 = .ok (.iconst 0, 1) := by decide +kernel
theorem dX3_used_1 : decode cX3_used 1 = .ok (.istore_n 1, 1) := by decide +kernel
theorem dX3_used_2 : decode cX3_used 2 = .ok (.iconst 0, 1) := by decide +kernel
theorem dX3_used_3 : decode cX3_used 3 = .ok (.istore_n 2, 1) := by decide +kernel
theorem dX3_used_4 : decode cX3_used 4 = .ok (.iload_n 2, 1) := by decide +kernel
theorem dX3_used_5 : decode cX3_used 5 = .ok (.aload_n 0, 1) := by decide +kernel
theorem dX3_used_6 : decode cX3_used 6 = .ok (.getfield 28, 3) := by decide +kernel
theorem dX3_used_9 : decode cX3_used 9 = .ok (.if_icmp .ge 21, 3) := by decide +kernel
theorem dX3_used_12 : decode cX3_used 12 = .ok (.iload_n 1, 1) := by decide +kernel
theorem dX3_used_13 : decode cX3_used 13 = .ok (.aload_n 0, 1) := by decide +kernel
theorem dX3_used_14 : decode cX3_used 14 = .ok (.getfield 24, 3) := by decide +kernel
theorem dX3_used_17 : decode cX3_used 17 = .ok (.iload_n 2, 1) := by decide +kernel
theorem dX3_used_18 : decode cX3_used 18 = .ok (.aaload, 1) := by decide +kernel
theorem dX3_used_19 : decode cX3_used 19 = .ok (.getfield 143, 3) := by decide +kernel
theorem dX3_used_22 : decode cX3_used 22 = .ok (.iadd, 1) := by decide +kernel
theorem dX3_used_23 : decode cX3_used 23 = .ok (.istore_n 1, 1) := by decide +kernel
theorem dX3_used_24 : decode cX3_used 24 = .ok (.iinc 2 1, 3) := by decide +kernel
theorem dX3_used_27 : decode cX3_used 27 = .ok (.goto (-23), 3) := by decide +kernel
theorem dX3_used_30 : decode cX3_used 30 = .ok (.bipush 12, 2) := by decide +kernel
theorem dX3_used_32 : decode cX3_used 32 = .ok (.aload_n 0, 1) := by decide +kernel
theorem dX3_used_33 : decode cX3_used 33 = .ok (.getfield 15, 3) := by decide +kernel
theorem dX3_used_36 : decode cX3_used 36 = .ok (.imul, 1) := by decide +kernel
theorem dX3_used_37 : decode cX3_used 37 = .ok (.iconst 3, 1) := by decide +kernel
theorem dX3_used_38 : decode cX3_used 38 = .ok (.iload_n 1, 1) := by decide +kernel
theorem dX3_used_39 : decode cX3_used 39 = .ok (.imul, 1) := by decide +kernel
theorem dX3_used_40 : decode cX3_used 40 = .ok (.iadd, 1) := by decide +kernel
theorem dX3_used_41 : decode cX3_used 41 = .ok (.bipush 6, 2) := by decide +kernel
theorem dX3_used_43 : decode cX3_used 43 = .ok (.aload_n 0, 1) := by decide +kernel
theorem dX3_used_44 : decode cX3_used 44 = .ok (.getfield 28, 3) := by decide +kernel
theorem dX3_used_47 : decode cX3_used 47 = .ok (.imul, 1) := by decide +kernel
theorem dX3_used_48 : decode cX3_used 48 = .ok (.iadd, 1) := by decide +kernel
theorem dX3_used_49 : decode cX3_used 49 = .ok (.bipush 10, 2) := by decide +kernel
theorem dX3_used_51 : decode cX3_used 51 = .ok (.aload_n 0, 1) := by decide +kernel
theorem dX3_used_52 : decode cX3_used 52 = .ok (.getfield 46, 3) := by decide +kernel
theorem dX3_used_55 : decode cX3_used 55 = .ok (.imul, 1) := by decide +kernel
theorem dX3_used_56 : decode cX3_used 56 = .ok (.iadd, 1) := by decide +kernel
theorem dX3_used_57 : decode cX3_used 57 = .ok (.ireturn, 1) := by decide +kernel
theorem dX3_old_0 : decode cX3_old 0 = .ok (.aload_n 0, 1) := by decide +kernel
theorem dX3_old_1 : decode cX3_old 1 = .ok (.iload_n 1, 1) := by decide +kernel
theorem dX3_old_2 : decode cX3_old 2 = .ok (.invokevirtual 63, 3) := by decide +kernel
theorem dX3_old_5 : decode cX3_old 5 = .ok (.astore_n 2, 1) := by decide +kernel
theorem dX3_old_6 : decode cX3_old 6 = .ok (.iconst 0, 1) := by decide +kernel
theorem dX3_old_7 : decode cX3_old 7 = .ok (.istore_n 3, 1) := by decide +kernel
theorem dX3_old_8 : decode cX3_old 8 = .ok (.iconst 0, 1) := by decide +kernel
theorem dX3_old_9 : decode cX3_old 9 = .ok (.istore 4, 2) := by decide +kernel
theorem dX3_old_11 : decode cX3_old 11 = .ok (.iload 4, 2) := by decide +kernel
theorem dX3_old_13 : decode cX3_old 13 = .ok (.aload_n 0, 1) := by decide +kernel
theorem dX3_old_14 : decode cX3_old 14 = .ok (.getfield 28, 3) := by decide +kernel
theorem dX3_old_17 : decode cX3_old 17 = .ok (.if_icmp .ge 26, 3) := by decide +kernel
theorem dX3_old_20 : decode cX3_old 20 = .ok (.aload_n 2, 1) := by decide +kernel
theorem dX3_old_21 : decode cX3_old 21 = .ok (.aload_n 0, 1) := by decide +kernel
theorem dX3_old_22 : decode cX3_old 22 = .ok (.getfield 24, 3) := by decide +kernel
theorem dX3_old_25 : decode cX3_old 25 = .ok (.iload 4, 2) := by decide +kernel
theorem dX3_old_27 : decode cX3_old 27 = .ok (.aaload, 1) := by decide +kernel
theorem dX3_old_28 : decode cX3_old 28 = .ok (.invokevirtual 146, 3) := by decide +kernel
theorem dX3_old_31 : decode cX3_old 31 = .ok (.ifCond .eq 6, 3) := by decide +kernel
theorem dX3_old_34 : decode cX3_old 34 = .ok (.iinc 3 1, 3) := by decide +kernel
theorem dX3_old_37 : decode cX3_old 37 = .ok (.iinc 4 1, 3) := by decide +kernel
theorem dX3_old_40 : decode cX3_old 40 = .ok (.goto (-29), 3) := by decide +kernel
theorem dX3_old_43 : decode cX3_old 43 = .ok (.iload_n 3, 1) := by decide +kernel
theorem dX3_old_44 : decode cX3_old 44 = .ok (.ireturn, 1) := by decide +kernel
theorem dX3_deepest_0 : decode cX3_deepest 0 = .ok (.aload_n 0, 1) := by decide +kernel
theorem dX3_deepest_1 : decode cX3_deepest 1 = .ok (.getfield 34, 3) := by decide +kernel
theorem dX3_deepest_4 : decode cX3_deepest 4 = .ok (.ireturn, 1) := by decide +kernel
theorem dX3_existing_0 : decode cX3_existing 0 = .ok (.aload_n 0, 1) := by decide +kernel
theorem dX3_existing_1 : decode cX3_existing 1 = .ok (.iload_n 1, 1) := by decide +kernel
theorem dX3_existing_2 : decode cX3_existing 2 = .ok (.invokevirtual 149, 3) := by decide +kernel
theorem dX3_existing_5 : decode cX3_existing 5 = .ok (.astore_n 2, 1) := by decide +kernel
theorem dX3_existing_6 : decode cX3_existing 6 = .ok (.aload_n 2, 1) := by decide +kernel
theorem dX3_existing_7 : decode cX3_existing 7 = .ok (.ifnonnull 13, 3) := by decide +kernel
theorem dX3_existing_10 : decode cX3_existing 10 = .ok (.new 152, 3) := by decide +kernel
theorem dX3_existing_13 : decode cX3_existing 13 = .ok (.dup, 1) := by decide +kernel
theorem dX3_existing_14 : decode cX3_existing 14 = .ok (.ldc 154, 2) := by decide +kernel
theorem dX3_existing_16 : decode cX3_existing 16 = .ok (.invokespecial 156, 3) := by decide +kernel
theorem dX3_existing_19 : decode cX3_existing 19 = .ok (.athrow, 1) := by decide +kernel
theorem dX3_existing_20 : decode cX3_existing 20 = .ok (.aload_n 2, 1) := by decide +kernel
theorem dX3_existing_21 : decode cX3_existing 21 = .ok (.areturn, 1) := by decide +kernel
theorem dX3_find_0 : decode cX3_find 0 = .ok (.iload_n 1, 1) := by decide +kernel
theorem dX3_find_1 : decode cX3_find 1 = .ok (.aload_n 0, 1) := by decide +kernel
theorem dX3_find_2 : decode cX3_find 2 = .ok (.getfield 15, 3) := by decide +kernel
theorem dX3_find_5 : decode cX3_find 5 = .ok (.iconst 1, 1) := by decide +kernel
theorem dX3_find_6 : decode cX3_find 6 = .ok (.isub, 1) := by decide +kernel
theorem dX3_find_7 : decode cX3_find 7 = .ok (.invokestatic 157, 3) := by decide +kernel
theorem dX3_find_10 : decode cX3_find 10 = .ok (.istore_n 2, 1) := by decide +kernel
theorem dX3_find_11 : decode cX3_find 11 = .ok (.iload_n 2, 1) := by decide +kernel
theorem dX3_find_12 : decode cX3_find 12 = .ok (.ifCond .lt 29, 3) := by decide +kernel
theorem dX3_find_15 : decode cX3_find 15 = .ok (.aload_n 0, 1) := by decide +kernel
theorem dX3_find_16 : decode cX3_find 16 = .ok (.getfield 11, 3) := by decide +kernel
theorem dX3_find_19 : decode cX3_find 19 = .ok (.iload_n 2, 1) := by decide +kernel
theorem dX3_find_20 : decode cX3_find 20 = .ok (.aaload, 1) := by decide +kernel
theorem dX3_find_21 : decode cX3_find 21 = .ok (.getfield 60, 3) := by decide +kernel
theorem dX3_find_24 : decode cX3_find 24 = .ok (.iload_n 1, 1) := by decide +kernel
theorem dX3_find_25 : decode cX3_find 25 = .ok (.if_icmp .ne 10, 3) := by decide +kernel
theorem dX3_find_28 : decode cX3_find 28 = .ok (.aload_n 0, 1) := by decide +kernel
theorem dX3_find_29 : decode cX3_find 29 = .ok (.getfield 11, 3) := by decide +kernel
theorem dX3_find_32 : decode cX3_find 32 = .ok (.iload_n 2, 1) := by decide +kernel
theorem dX3_find_33 : decode cX3_find 33 = .ok (.aaload, 1) := by decide +kernel
theorem dX3_find_34 : decode cX3_find 34 = .ok (.areturn, 1) := by decide +kernel
theorem dX3_find_35 : decode cX3_find 35 = .ok (.iinc 2 (-1), 3) := by decide +kernel
theorem dX3_find_38 : decode cX3_find 38 = .ok (.goto (-27), 3) := by decide +kernel
theorem dX3_find_41 : decode cX3_find 41 = .ok (.aconst_null, 1) := by decide +kernel
theorem dX3_find_42 : decode cX3_find 42 = .ok (.areturn, 1) := by decide +kernel
theorem dX3_referredTo_0 : decode cX3_referredTo 0 = .ok (.iload_n 1, 1) := by decide +kernel
theorem dX3_referredTo_1 : decode cX3_referredTo 1 = .ok (.ifCond .ge 13, 3) := by decide +kernel
theorem dX3_referredTo_4 : decode cX3_referredTo 4 = .ok (.aload_n 0, 1) := by decide +kernel
theorem dX3_referredTo_5 : decode cX3_referredTo 5 = .ok (.iconst (-1), 1) := by decide +kernel
theorem dX3_referredTo_6 : decode cX3_referredTo 6 = .ok (.iload_n 1, 1) := by decide +kernel
theorem dX3_referredTo_7 : decode cX3_referredTo 7 = .ok (.isub, 1) := by decide +kernel
theorem dX3_referredTo_8 : decode cX3_referredTo 8 = .ok (.invokevirtual 149, 3) := by decide +kernel
theorem dX3_referredTo_11 : decode cX3_referredTo 11 = .ok (.goto 4, 3) := by decide +kernel
theorem dX3_referredTo_14 : decode cX3_referredTo 14 = .ok (.aconst_null, 1) := by decide +kernel
theorem dX3_referredTo_15 : decode cX3_referredTo 15 = .ok (.areturn, 1) := by decide +kernel
theorem dX3_refersToLocal_0 : decode cX3_refersToLocal 0 = .ok (.aload_n 0, 1) := by decide +kernel
theorem dX3_refersToLocal_1 : decode cX3_refersToLocal 1 = .ok (.iload_n 1, 1) := by decide +kernel
theorem dX3_refersToLocal_2 : decode cX3_refersToLocal 2 = .ok (.invokevirtual 160, 3) := by decide +kernel
theorem dX3_refersToLocal_5 : decode cX3_refersToLocal 5 = .ok (.astore_n 2, 1) := by decide +kernel
theorem dX3_refersToLocal_6 : decode cX3_refersToLocal 6 = .ok (.aload_n 2, 1) := by decide +kernel
theorem dX3_refersToLocal_7 : decode cX3_refersToLocal 7 = .ok (.ifnull 14, 3) := by decide +kernel
theorem dX3_refersToLocal_10 : decode cX3_refersToLocal 10 = .ok (.aload_n 2, 1) := by decide +kernel
theorem dX3_refersToLocal_11 : decode cX3_refersToLocal 11 = .ok (.getfield 75, 3) := by decide +kernel
theorem dX3_refersToLocal_14 : decode cX3_refersToLocal 14 = .ok (.ifCond .ne 7, 3) := by decide +kernel
theorem dX3_refersToLocal_17 : decode cX3_refersToLocal 17 = .ok (.iconst 1, 1) := by decide +kernel
theorem dX3_refersToLocal_18 : decode cX3_refersToLocal 18 = .ok (.goto 4, 3) := by decide +kernel
theorem dX3_refersToLocal_21 : decode cX3_refersToLocal 21 = .ok (.iconst 0, 1) := by decide +kernel
theorem dX3_refersToLocal_22 : decode cX3_refersToLocal 22 = .ok (.ireturn, 1) := by decide +kernel
theorem dX3_checkValue_0 : decode cX3_checkValue 0 = .ok (.iload_n 1, 1) := by decide +kernel
theorem dX3_checkValue_1 : decode cX3_checkValue 1 = .ok (.ifCond .ge 21, 3) := by decide +kernel
theorem dX3_checkValue_4 : decode cX3_checkValue 4 = .ok (.aload_n 0, 1) := by decide +kernel
theorem dX3_checkValue_5 : decode cX3_checkValue 5 = .ok (.iload_n 1, 1) := by decide +kernel
theorem dX3_checkValue_6 : decode cX3_checkValue 6 = .ok (.invokevirtual 160, 3) := by decide +kernel
theorem dX3_checkValue_9 : decode cX3_checkValue 9 = .ok (.ifnonnull 13, 3) := by decide +kernel
theorem dX3_checkValue_12 : decode cX3_checkValue 12 = .ok (.new 152, 3) := by decide +kernel
theorem dX3_checkValue_15 : decode cX3_checkValue 15 = .ok (.dup, 1) := by decide +kernel
theorem dX3_checkValue_16 : decode cX3_checkValue 16 = .ok (.ldc 163, 2) := by decide +kernel
theorem dX3_checkValue_18 : decode cX3_checkValue 18 = .ok (.invokespecial 156, 3) := by decide +kernel
theorem dX3_checkValue_21 : decode cX3_checkValue 21 = .ok (.athrow, 1) := by decide +kernel
theorem dX3_checkValue_22 : decode cX3_checkValue 22 = .ok (.return_, 1) := by decide +kernel
theorem dX3_checkIndex_0 : decode cX3_checkIndex 0 = .ok (.iload_n 0, 1) := by decide +kernel
theorem dX3_checkIndex_1 : decode cX3_checkIndex 1 = .ok (.ifCond .lt 8, 3) := by decide +kernel
theorem dX3_checkIndex_4 : decode cX3_checkIndex 4 = .ok (.iload_n 0, 1) := by decide +kernel
theorem dX3_checkIndex_5 : decode cX3_checkIndex 5 = .ok (.iload_n 1, 1) := by decide +kernel
theorem dX3_checkIndex_6 : decode cX3_checkIndex 6 = .ok (.if_icmp .lt 13, 3) := by decide +kernel
theorem dX3_checkIndex_9 : decode cX3_checkIndex 9 = .ok (.new 135, 3) := by decide +kernel
theorem dX3_checkIndex_12 : decode cX3_checkIndex 12 = .ok (.dup, 1) := by decide +kernel
theorem dX3_checkIndex_13 : decode cX3_checkIndex 13 = .ok (.ldc 165, 2) := by decide +kernel
theorem dX3_checkIndex_15 : decode cX3_checkIndex 15 = .ok (.invokespecial 139, 3) := by decide +kernel
theorem dX3_checkIndex_18 : decode cX3_checkIndex 18 = .ok (.athrow, 1) := by decide +kernel
theorem dX3_checkIndex_19 : decode cX3_checkIndex 19 = .ok (.return_, 1) := by decide +kernel
theorem dX3_keepRow_0 : decode cX3_keepRow 0 = .ok (.aload_n 0, 1) := by decide +kernel
theorem dX3_keepRow_1 : decode cX3_keepRow 1 = .ok (.getfield 28, 3) := by decide +kernel
theorem dX3_keepRow_4 : decode cX3_keepRow 4 = .ok (.ifCond .le 10, 3) := by decide +kernel
theorem dX3_keepRow_7 : decode cX3_keepRow 7 = .ok (.aload_n 1, 1) := by decide +kernel
theorem dX3_keepRow_8 : decode cX3_keepRow 8 = .ok (.getfield 75, 3) := by decide +kernel
theorem dX3_keepRow_11 : decode cX3_keepRow 11 = .ok (.ifCond .eq 4, 3) := by decide +kernel
theorem dX3_keepRow_14 : decode cX3_keepRow 14 = .ok (.return_, 1) := by decide +kernel
theorem dX3_keepRow_15 : decode cX3_keepRow 15 = .ok (.aload_n 0, 1) := by decide +kernel
theorem dX3_keepRow_16 : decode cX3_keepRow 16 = .ok (.getfield 24, 3) := by decide +kernel
theorem dX3_keepRow_19 : decode cX3_keepRow 19 = .ok (.aload_n 0, 1) := by decide +kernel
theorem dX3_keepRow_20 : decode cX3_keepRow 20 = .ok (.getfield 28, 3) := by decide +kernel
theorem dX3_keepRow_23 : decode cX3_keepRow 23 = .ok (.iconst 1, 1) := by decide +kernel
theorem dX3_keepRow_24 : decode cX3_keepRow 24 = .ok (.isub, 1) := by decide +kernel
theorem dX3_keepRow_25 : decode cX3_keepRow 25 = .ok (.aaload, 1) := by decide +kernel
theorem dX3_keepRow_26 : decode cX3_keepRow 26 = .ok (.astore_n 3, 1) := by decide +kernel
theorem dX3_keepRow_27 : decode cX3_keepRow 27 = .ok (.aload_n 1, 1) := by decide +kernel
theorem dX3_keepRow_28 : decode cX3_keepRow 28 = .ok (.aload_n 3, 1) := by decide +kernel
theorem dX3_keepRow_29 : decode cX3_keepRow 29 = .ok (.invokevirtual 146, 3) := by decide +kernel
theorem dX3_keepRow_32 : decode cX3_keepRow 32 = .ok (.ifCond .ne 16, 3) := by decide +kernel
theorem dX3_keepRow_35 : decode cX3_keepRow 35 = .ok (.aload_n 1, 1) := by decide +kernel
theorem dX3_keepRow_36 : decode cX3_keepRow 36 = .ok (.getfield 167, 3) := by decide +kernel
theorem dX3_keepRow_39 : decode cX3_keepRow 39 = .ok (.iload_n 2, 1) := by decide +kernel
theorem dX3_keepRow_40 : decode cX3_keepRow 40 = .ok (.iaload, 1) := by decide +kernel
theorem dX3_keepRow_41 : decode cX3_keepRow 41 = .ok (.aload_n 3, 1) := by decide +kernel
theorem dX3_keepRow_42 : decode cX3_keepRow 42 = .ok (.getfield 97, 3) := by decide +kernel
theorem dX3_keepRow_45 : decode cX3_keepRow 45 = .ok (.if_icmp .ne 4, 3) := by decide +kernel
theorem dX3_keepRow_48 : decode cX3_keepRow 48 = .ok (.return_, 1) := by decide +kernel
theorem dX3_keepRow_49 : decode cX3_keepRow 49 = .ok (.aload_n 3, 1) := by decide +kernel
theorem dX3_keepRow_50 : decode cX3_keepRow 50 = .ok (.new 170, 3) := by decide +kernel
theorem dX3_keepRow_53 : decode cX3_keepRow 53 = .ok (.dup, 1) := by decide +kernel
theorem dX3_keepRow_54 : decode cX3_keepRow 54 = .ok (.aload_n 1, 1) := by decide +kernel
theorem dX3_keepRow_55 : decode cX3_keepRow 55 = .ok (.iload_n 2, 1) := by decide +kernel
theorem dX3_keepRow_56 : decode cX3_keepRow 56 = .ok (.aload_n 3, 1) := by decide +kernel
theorem dX3_keepRow_57 : decode cX3_keepRow 57 = .ok (.getfield 172, 3) := by decide +kernel
theorem dX3_keepRow_60 : decode cX3_keepRow 60 = .ok (.invokespecial 176, 3) := by decide +kernel
theorem dX3_keepRow_63 : decode cX3_keepRow 63 = .ok (.putfield 172, 3) := by decide +kernel
theorem dX3_keepRow_66 : decode cX3_keepRow 66 = .ok (.aload_n 3, 1) := by decide +kernel
theorem dX3_keepRow_67 : decode cX3_keepRow 67 = .ok (.dup, 1) := by decide +kernel
theorem dX3_keepRow_68 : decode cX3_keepRow 68 = .ok (.getfield 143, 3) := by decide +kernel
theorem dX3_keepRow_71 : decode cX3_keepRow 71 = .ok (.iconst 1, 1) := by decide +kernel
theorem dX3_keepRow_72 : decode cX3_keepRow 72 = .ok (.iadd, 1) := by decide +kernel
theorem dX3_keepRow_73 : decode cX3_keepRow 73 = .ok (.putfield 143, 3) := by decide +kernel
theorem dX3_keepRow_76 : decode cX3_keepRow 76 = .ok (.aload_n 1, 1) := by decide +kernel
theorem dX3_keepRow_77 : decode cX3_keepRow 77 = .ok (.getfield 167, 3) := by decide +kernel
theorem dX3_keepRow_80 : decode cX3_keepRow 80 = .ok (.iload_n 2, 1) := by decide +kernel
theorem dX3_keepRow_81 : decode cX3_keepRow 81 = .ok (.aload_n 3, 1) := by decide +kernel
theorem dX3_keepRow_82 : decode cX3_keepRow 82 = .ok (.getfield 97, 3) := by decide +kernel
theorem dX3_keepRow_85 : decode cX3_keepRow 85 = .ok (.iastore, 1) := by decide +kernel
theorem dX3_keepRow_86 : decode cX3_keepRow 86 = .ok (.return_, 1) := by decide +kernel
theorem dX3_placeOfLiving_0 : decode cX3_placeOfLiving 0 = .ok (.aload_n 0, 1) := by decide +kernel
theorem dX3_placeOfLiving_1 : decode cX3_placeOfLiving 1 = .ok (.getfield 28, 3) := by decide +kernel
theorem dX3_placeOfLiving_4 : decode cX3_placeOfLiving 4 = .ok (.iconst 1, 1) := by decide +kernel
theorem dX3_placeOfLiving_5 : decode cX3_placeOfLiving 5 = .ok (.isub, 1) := by decide +kernel
theorem dX3_placeOfLiving_6 : decode cX3_placeOfLiving 6 = .ok (.istore_n 2, 1) := by decide +kernel
theorem dX3_placeOfLiving_7 : decode cX3_placeOfLiving 7 = .ok (.iload_n 2, 1) := by decide +kernel
theorem dX3_placeOfLiving_8 : decode cX3_placeOfLiving 8 = .ok (.ifCond .lt 24, 3) := by decide +kernel
theorem dX3_placeOfLiving_11 : decode cX3_placeOfLiving 11 = .ok (.aload_n 0, 1) := by decide +kernel
theorem dX3_placeOfLiving_12 : decode cX3_placeOfLiving 12 = .ok (.getfield 24, 3) := by decide +kernel
theorem dX3_placeOfLiving_15 : decode cX3_placeOfLiving 15 = .ok (.iload_n 2, 1) := by decide +kernel
theorem dX3_placeOfLiving_16 : decode cX3_placeOfLiving 16 = .ok (.aaload, 1) := by decide +kernel
theorem dX3_placeOfLiving_17 : decode cX3_placeOfLiving 17 = .ok (.getfield 97, 3) := by decide +kernel
theorem dX3_placeOfLiving_20 : decode cX3_placeOfLiving 20 = .ok (.iload_n 1, 1) := by decide +kernel
theorem dX3_placeOfLiving_21 : decode cX3_placeOfLiving 21 = .ok (.if_icmp .ne 5, 3) := by decide +kernel
theorem dX3_placeOfLiving_24 : decode cX3_placeOfLiving 24 = .ok (.iload_n 2, 1) := by decide +kernel
theorem dX3_placeOfLiving_25 : decode cX3_placeOfLiving 25 = .ok (.ireturn, 1) := by decide +kernel
theorem dX3_placeOfLiving_26 : decode cX3_placeOfLiving 26 = .ok (.iinc 2 (-1), 3) := by decide +kernel
theorem dX3_placeOfLiving_29 : decode cX3_placeOfLiving 29 = .ok (.goto (-22), 3) := by decide +kernel
theorem dX3_placeOfLiving_32 : decode cX3_placeOfLiving 32 = .ok (.iconst (-1), 1) := by decide +kernel
theorem dX3_placeOfLiving_33 : decode cX3_placeOfLiving 33 = .ok (.ireturn, 1) := by decide +kernel
theorem dX3_keptRefersToNewer_0 : decode cX3_keptRefersToNewer 0 = .ok (.bipush 8, 2) := by decide +kernel
theorem dX3_keptRefersToNewer_2 : decode cX3_keptRefersToNewer 2 = .ok (.istore_n 2, 1) := by decide +kernel
theorem dX3_keptRefersToNewer_3 : decode cX3_keptRefersToNewer 3 = .ok (.iload_n 2, 1) := by decide +kernel
theorem dX3_keptRefersToNewer_4 : decode cX3_keptRefersToNewer 4 = .ok (.bipush 10, 2) := by decide +kernel
theorem dX3_keptRefersToNewer_6 : decode cX3_keptRefersToNewer 6 = .ok (.if_icmp .ge 41, 3) := by decide +kernel
theorem dX3_keptRefersToNewer_9 : decode cX3_keptRefersToNewer 9 = .ok (.aload_n 0, 1) := by decide +kernel
theorem dX3_keptRefersToNewer_10 : decode cX3_keptRefersToNewer 10 = .ok (.aload_n 0, 1) := by decide +kernel
theorem dX3_keptRefersToNewer_11 : decode cX3_keptRefersToNewer 11 = .ok (.getfield 37, 3) := by decide +kernel
theorem dX3_keptRefersToNewer_14 : decode cX3_keptRefersToNewer 14 = .ok (.iload_n 2, 1) := by decide +kernel
theorem dX3_keptRefersToNewer_15 : decode cX3_keptRefersToNewer 15 = .ok (.iaload, 1) := by decide +kernel
theorem dX3_keptRefersToNewer_16 : decode cX3_keptRefersToNewer 16 = .ok (.invokevirtual 160, 3) := by decide +kernel
theorem dX3_keptRefersToNewer_19 : decode cX3_keptRefersToNewer 19 = .ok (.astore_n 3, 1) := by decide +kernel
theorem dX3_keptRefersToNewer_20 : decode cX3_keptRefersToNewer 20 = .ok (.aload_n 3, 1) := by decide +kernel
theorem dX3_keptRefersToNewer_21 : decode cX3_keptRefersToNewer 21 = .ok (.ifnull 20, 3) := by decide +kernel
theorem dX3_keptRefersToNewer_24 : decode cX3_keptRefersToNewer 24 = .ok (.aload_n 3, 1) := by decide +kernel
theorem dX3_keptRefersToNewer_25 : decode cX3_keptRefersToNewer 25 = .ok (.getfield 75, 3) := by decide +kernel
theorem dX3_keptRefersToNewer_28 : decode cX3_keptRefersToNewer 28 = .ok (.ifCond .ne 13, 3) := by decide +kernel
theorem dX3_keptRefersToNewer_31 : decode cX3_keptRefersToNewer 31 = .ok (.aload_n 3, 1) := by decide +kernel
theorem dX3_keptRefersToNewer_32 : decode cX3_keptRefersToNewer 32 = .ok (.aload_n 1, 1) := by decide +kernel
theorem dX3_keptRefersToNewer_33 : decode cX3_keptRefersToNewer 33 = .ok (.invokevirtual 146, 3) := by decide +kernel
theorem dX3_keptRefersToNewer_36 : decode cX3_keptRefersToNewer 36 = .ok (.ifCond .eq 5, 3) := by decide +kernel
theorem dX3_keptRefersToNewer_39 : decode cX3_keptRefersToNewer 39 = .ok (.iconst 1, 1) := by decide +kernel
theorem dX3_keptRefersToNewer_40 : decode cX3_keptRefersToNewer 40 = .ok (.ireturn, 1) := by decide +kernel
theorem dX3_keptRefersToNewer_41 : decode cX3_keptRefersToNewer 41 = .ok (.iinc 2 1, 3) := by decide +kernel
theorem dX3_keptRefersToNewer_44 : decode cX3_keptRefersToNewer 44 = .ok (.goto (-41), 3) := by decide +kernel
theorem dX3_keptRefersToNewer_47 : decode cX3_keptRefersToNewer 47 = .ok (.iconst 0, 1) := by decide +kernel
theorem dX3_keptRefersToNewer_48 : decode cX3_keptRefersToNewer 48 = .ok (.ireturn, 1) := by decide +kernel
theorem dX3_undoSince_0 : decode cX3_undoSince 0 = .ok (.aload_n 1, 1) := by decide +kernel
theorem dX3_undoSince_1 : decode cX3_undoSince 1 = .ok (.getfield 172, 3) := by decide +kernel
theorem dX3_undoSince_4 : decode cX3_undoSince 4 = .ok (.astore_n 2, 1) := by decide +kernel
theorem dX3_undoSince_5 : decode cX3_undoSince 5 = .ok (.aload_n 2, 1) := by decide +kernel
theorem dX3_undoSince_6 : decode cX3_undoSince 6 = .ok (.ifnull 15, 3) := by decide +kernel
theorem dX3_undoSince_9 : decode cX3_undoSince 9 = .ok (.aload_n 2, 1) := by decide +kernel
theorem dX3_undoSince_10 : decode cX3_undoSince 10 = .ok (.invokevirtual 179, 3) := by decide +kernel
theorem dX3_undoSince_13 : decode cX3_undoSince 13 = .ok (.aload_n 2, 1) := by decide +kernel
theorem dX3_undoSince_14 : decode cX3_undoSince 14 = .ok (.getfield 182, 3) := by decide +kernel
theorem dX3_undoSince_17 : decode cX3_undoSince 17 = .ok (.astore_n 2, 1) := by decide +kernel
theorem dX3_undoSince_18 : decode cX3_undoSince 18 = .ok (.goto (-13), 3) := by decide +kernel
theorem dX3_undoSince_21 : decode cX3_undoSince 21 = .ok (.aload_n 1, 1) := by decide +kernel
theorem dX3_undoSince_22 : decode cX3_undoSince 22 = .ok (.aconst_null, 1) := by decide +kernel
theorem dX3_undoSince_23 : decode cX3_undoSince 23 = .ok (.putfield 172, 3) := by decide +kernel
theorem dX3_undoSince_26 : decode cX3_undoSince 26 = .ok (.aload_n 1, 1) := by decide +kernel
theorem dX3_undoSince_27 : decode cX3_undoSince 27 = .ok (.iconst 0, 1) := by decide +kernel
theorem dX3_undoSince_28 : decode cX3_undoSince 28 = .ok (.putfield 143, 3) := by decide +kernel
theorem dX3_undoSince_31 : decode cX3_undoSince 31 = .ok (.aload_n 0, 1) := by decide +kernel
theorem dX3_undoSince_32 : decode cX3_undoSince 32 = .ok (.aload_n 1, 1) := by decide +kernel
theorem dX3_undoSince_33 : decode cX3_undoSince 33 = .ok (.invokevirtual 185, 3) := by decide +kernel
theorem dX3_undoSince_36 : decode cX3_undoSince 36 = .ok (.aload_n 0, 1) := by decide +kernel
theorem dX3_undoSince_37 : decode cX3_undoSince 37 = .ok (.aload_n 1, 1) := by decide +kernel
theorem dX3_undoSince_38 : decode cX3_undoSince 38 = .ok (.getfield 101, 3) := by decide +kernel
theorem dX3_undoSince_41 : decode cX3_undoSince 41 = .ok (.putfield 46, 3) := by decide +kernel
theorem dX3_undoSince_44 : decode cX3_undoSince 44 = .ok (.aload_n 1, 1) := by decide +kernel
theorem dX3_undoSince_45 : decode cX3_undoSince 45 = .ok (.getfield 104, 3) := by decide +kernel
theorem dX3_undoSince_48 : decode cX3_undoSince 48 = .ok (.iconst 0, 1) := by decide +kernel
theorem dX3_undoSince_49 : decode cX3_undoSince 49 = .ok (.aload_n 0, 1) := by decide +kernel
theorem dX3_undoSince_50 : decode cX3_undoSince 50 = .ok (.getfield 37, 3) := by decide +kernel
theorem dX3_undoSince_53 : decode cX3_undoSince 53 = .ok (.iconst 0, 1) := by decide +kernel
theorem dX3_undoSince_54 : decode cX3_undoSince 54 = .ok (.bipush 8, 2) := by decide +kernel
theorem dX3_undoSince_56 : decode cX3_undoSince 56 = .ok (.invokestatic 105, 3) := by decide +kernel
theorem dX3_undoSince_59 : decode cX3_undoSince 59 = .ok (.return_, 1) := by decide +kernel
theorem dX3_dropLocalsNewerThan_0 : decode cX3_dropLocalsNewerThan 0 = .ok (.iconst 0, 1) := by decide +kernel
theorem dX3_dropLocalsNewerThan_1 : decode cX3_dropLocalsNewerThan 1 = .ok (.istore_n 2, 1) := by decide +kernel
theorem dX3_dropLocalsNewerThan_2 : decode cX3_dropLocalsNewerThan 2 = .ok (.iconst 0, 1) := by decide +kernel
theorem dX3_dropLocalsNewerThan_3 : decode cX3_dropLocalsNewerThan 3 = .ok (.istore_n 3, 1) := by decide +kernel
theorem dX3_dropLocalsNewerThan_4 : decode cX3_dropLocalsNewerThan 4 = .ok (.iload_n 3, 1) := by decide +kernel
theorem dX3_dropLocalsNewerThan_5 : decode cX3_dropLocalsNewerThan 5 = .ok (.aload_n 0, 1) := by decide +kernel
theorem dX3_dropLocalsNewerThan_6 : decode cX3_dropLocalsNewerThan 6 = .ok (.getfield 15, 3) := by decide +kernel
theorem dX3_dropLocalsNewerThan_9 : decode cX3_dropLocalsNewerThan 9 = .ok (.if_icmp .ge 45, 3) := by decide +kernel
theorem dX3_dropLocalsNewerThan_12 : decode cX3_dropLocalsNewerThan 12 = .ok (.aload_n 0, 1) := by decide +kernel
theorem dX3_dropLocalsNewerThan_13 : decode cX3_dropLocalsNewerThan 13 = .ok (.getfield 11, 3) := by decide +kernel
theorem dX3_dropLocalsNewerThan_16 : decode cX3_dropLocalsNewerThan 16 = .ok (.iload_n 3, 1) := by decide +kernel
theorem dX3_dropLocalsNewerThan_17 : decode cX3_dropLocalsNewerThan 17 = .ok (.aaload, 1) := by decide +kernel
theorem dX3_dropLocalsNewerThan_18 : decode cX3_dropLocalsNewerThan 18 = .ok (.astore 4, 2) := by decide +kernel
theorem dX3_dropLocalsNewerThan_20 : decode cX3_dropLocalsNewerThan 20 = .ok (.aload 4, 2) := by decide +kernel
theorem dX3_dropLocalsNewerThan_22 : decode cX3_dropLocalsNewerThan 22 = .ok (.getfield 75, 3) := by decide +kernel
theorem dX3_dropLocalsNewerThan_25 : decode cX3_dropLocalsNewerThan 25 = .ok (.ifCond .ne 12, 3) := by decide +kernel
theorem dX3_dropLocalsNewerThan_28 : decode cX3_dropLocalsNewerThan 28 = .ok (.aload 4, 2) := by decide +kernel
theorem dX3_dropLocalsNewerThan_30 : decode cX3_dropLocalsNewerThan 30 = .ok (.aload_n 1, 1) := by decide +kernel
theorem dX3_dropLocalsNewerThan_31 : decode cX3_dropLocalsNewerThan 31 = .ok (.invokevirtual 146, 3) := by decide +kernel
theorem dX3_dropLocalsNewerThan_34 : decode cX3_dropLocalsNewerThan 34 = .ok (.ifCond .ne 14, 3) := by decide +kernel
theorem dX3_dropLocalsNewerThan_37 : decode cX3_dropLocalsNewerThan 37 = .ok (.aload_n 0, 1) := by decide +kernel
theorem dX3_dropLocalsNewerThan_38 : decode cX3_dropLocalsNewerThan 38 = .ok (.getfield 11, 3) := by decide +kernel
theorem dX3_dropLocalsNewerThan_41 : decode cX3_dropLocalsNewerThan 41 = .ok (.iload_n 2, 1) := by decide +kernel
theorem dX3_dropLocalsNewerThan_42 : decode cX3_dropLocalsNewerThan 42 = .ok (.aload 4, 2) := by decide +kernel
theorem dX3_dropLocalsNewerThan_44 : decode cX3_dropLocalsNewerThan 44 = .ok (.aastore, 1) := by decide +kernel
theorem dX3_dropLocalsNewerThan_45 : decode cX3_dropLocalsNewerThan 45 = .ok (.iinc 2 1, 3) := by decide +kernel
theorem dX3_dropLocalsNewerThan_48 : decode cX3_dropLocalsNewerThan 48 = .ok (.iinc 3 1, 3) := by decide +kernel
theorem dX3_dropLocalsNewerThan_51 : decode cX3_dropLocalsNewerThan 51 = .ok (.goto (-47), 3) := by decide +kernel
theorem dX3_dropLocalsNewerThan_54 : decode cX3_dropLocalsNewerThan 54 = .ok (.aload_n 0, 1) := by decide +kernel
theorem dX3_dropLocalsNewerThan_55 : decode cX3_dropLocalsNewerThan 55 = .ok (.iload_n 2, 1) := by decide +kernel
theorem dX3_dropLocalsNewerThan_56 : decode cX3_dropLocalsNewerThan 56 = .ok (.putfield 15, 3) := by decide +kernel
theorem dX3_dropLocalsNewerThan_59 : decode cX3_dropLocalsNewerThan 59 = .ok (.return_, 1) := by decide +kernel
theorem dX3_pushedSinceLatestSave_0 : decode cX3_pushedSinceLatestSave 0 = .ok (.aload_n 0, 1) := by decide +kernel
theorem dX3_pushedSinceLatestSave_1 : decode cX3_pushedSinceLatestSave 1 = .ok (.getfield 28, 3) := by decide +kernel
theorem dX3_pushedSinceLatestSave_4 : decode cX3_pushedSinceLatestSave 4 = .ok (.ifCond .le 25, 3) := by decide +kernel
theorem dX3_pushedSinceLatestSave_7 : decode cX3_pushedSinceLatestSave 7 = .ok (.aload_n 0, 1) := by decide +kernel
theorem dX3_pushedSinceLatestSave_8 : decode cX3_pushedSinceLatestSave 8 = .ok (.getfield 46, 3) := by decide +kernel
theorem dX3_pushedSinceLatestSave_11 : decode cX3_pushedSinceLatestSave 11 = .ok (.aload_n 0, 1) := by decide +kernel
theorem dX3_pushedSinceLatestSave_12 : decode cX3_pushedSinceLatestSave 12 = .ok (.getfield 24, 3) := by decide +kernel
theorem dX3_pushedSinceLatestSave_15 : decode cX3_pushedSinceLatestSave 15 = .ok (.aload_n 0, 1) := by decide +kernel
theorem dX3_pushedSinceLatestSave_16 : decode cX3_pushedSinceLatestSave 16 = .ok (.getfield 28, 3) := by decide +kernel
theorem dX3_pushedSinceLatestSave_19 : decode cX3_pushedSinceLatestSave 19 = .ok (.iconst 1, 1) := by decide +kernel
theorem dX3_pushedSinceLatestSave_20 : decode cX3_pushedSinceLatestSave 20 = .ok (.isub, 1) := by decide +kernel
theorem dX3_pushedSinceLatestSave_21 : decode cX3_pushedSinceLatestSave 21 = .ok (.aaload, 1) := by decide +kernel
theorem dX3_pushedSinceLatestSave_22 : decode cX3_pushedSinceLatestSave 22 = .ok (.getfield 101, 3) := by decide +kernel
theorem dX3_pushedSinceLatestSave_25 : decode cX3_pushedSinceLatestSave 25 = .ok (.isub, 1) := by decide +kernel
theorem dX3_pushedSinceLatestSave_26 : decode cX3_pushedSinceLatestSave 26 = .ok (.goto 7, 3) := by decide +kernel
theorem dX3_pushedSinceLatestSave_29 : decode cX3_pushedSinceLatestSave 29 = .ok (.aload_n 0, 1) := by decide +kernel
theorem dX3_pushedSinceLatestSave_30 : decode cX3_pushedSinceLatestSave 30 = .ok (.getfield 46, 3) := by decide +kernel
theorem dX3_pushedSinceLatestSave_33 : decode cX3_pushedSinceLatestSave 33 = .ok (.ireturn, 1) := by decide +kernel
theorem dX4_init_0 : decode cX4_init 0 = .ok (.aload_n 0, 1) := by decide +kernel
theorem dX4_init_1 : decode cX4_init 1 = .ok (.invokespecial 1, 3) := by decide +kernel
theorem dX4_init_4 : decode cX4_init 4 = .ok (.aload_n 0, 1) := by decide +kernel
theorem dX4_init_5 : decode cX4_init 5 = .ok (.sipush 600, 3) := by decide +kernel
theorem dX4_init_8 : decode cX4_init 8 = .ok (.newarray .boolean, 2) := by decide +kernel
theorem dX4_init_10 : decode cX4_init 10 = .ok (.putfield 7, 3) := by decide +kernel
theorem dX4_init_13 : decode cX4_init 13 = .ok (.aload_n 0, 1) := by decide +kernel
theorem dX4_init_14 : decode cX4_init 14 = .ok (.sipush 600, 3) := by decide +kernel
theorem dX4_init_17 : decode cX4_init 17 = .ok (.newarray .boolean, 2) := by decide +kernel
theorem dX4_init_19 : decode cX4_init 19 = .ok (.putfield 13, 3) := by decide +kernel
theorem dX4_init_22 : decode cX4_init 22 = .ok (.aload_n 0, 1) := by decide +kernel
theorem dX4_init_23 : decode cX4_init 23 = .ok (.sipush 4800, 3) := by decide +kernel
theorem dX4_init_26 : decode cX4_init 26 = .ok (.newarray .int, 2) := by decide +kernel
theorem dX4_init_28 : decode cX4_init 28 = .ok (.putfield 16, 3) := by decide +kernel
theorem dX4_init_31 : decode cX4_init 31 = .ok (.aload_n 0, 1) := by decide +kernel
theorem dX4_init_32 : decode cX4_init 32 = .ok (.sipush 4800, 3) := by decide +kernel
theorem dX4_init_35 : decode cX4_init 35 = .ok (.newarray .int, 2) := by decide +kernel
theorem dX4_init_37 : decode cX4_init 37 = .ok (.putfield 20, 3) := by decide +kernel
theorem dX4_init_40 : decode cX4_init 40 = .ok (.aload_n 0, 1) := by decide +kernel
theorem dX4_init_41 : decode cX4_init 41 = .ok (.bipush 10, 2) := by decide +kernel
theorem dX4_init_43 : decode cX4_init 43 = .ok (.newarray .int, 2) := by decide +kernel
theorem dX4_init_45 : decode cX4_init 45 = .ok (.putfield 23, 3) := by decide +kernel
theorem dX4_init_48 : decode cX4_init 48 = .ok (.aload_n 0, 1) := by decide +kernel
theorem dX4_init_49 : decode cX4_init 49 = .ok (.bipush 16, 2) := by decide +kernel
theorem dX4_init_51 : decode cX4_init 51 = .ok (.newarray .int, 2) := by decide +kernel
theorem dX4_init_53 : decode cX4_init 53 = .ok (.putfield 26, 3) := by decide +kernel
theorem dX4_init_56 : decode cX4_init 56 = .ok (.aload_n 0, 1) := by decide +kernel
theorem dX4_init_57 : decode cX4_init 57 = .ok (.bipush 16, 2) := by decide +kernel
theorem dX4_init_59 : decode cX4_init 59 = .ok (.newarray .int, 2) := by decide +kernel
theorem dX4_init_61 : decode cX4_init 61 = .ok (.putfield 29, 3) := by decide +kernel
theorem dX4_init_64 : decode cX4_init 64 = .ok (.aload_n 0, 1) := by decide +kernel
theorem dX4_init_65 : decode cX4_init 65 = .ok (.bipush 16, 2) := by decide +kernel
theorem dX4_init_67 : decode cX4_init 67 = .ok (.newarray .int, 2) := by decide +kernel
theorem dX4_init_69 : decode cX4_init 69 = .ok (.putfield 32, 3) := by decide +kernel
theorem dX4_init_72 : decode cX4_init 72 = .ok (.aload_n 0, 1) := by decide +kernel
theorem dX4_init_73 : decode cX4_init 73 = .ok (.bipush 16, 2) := by decide +kernel
theorem dX4_init_75 : decode cX4_init 75 = .ok (.newarray .int, 2) := by decide +kernel
theorem dX4_init_77 : decode cX4_init 77 = .ok (.putfield 35, 3) := by decide +kernel
theorem dX4_init_80 : decode cX4_init 80 = .ok (.aload_n 0, 1) := by decide +kernel
theorem dX4_init_81 : decode cX4_init 81 = .ok (.sipush 160, 3) := by decide +kernel
theorem dX4_init_84 : decode cX4_init 84 = .ok (.newarray .int, 2) := by decide +kernel
theorem dX4_init_86 : decode cX4_init 86 = .ok (.putfield 38, 3) := by decide +kernel
theorem dX4_init_89 : decode cX4_init 89 = .ok (.aload_n 0, 1) := by decide +kernel
theorem dX4_init_90 : decode cX4_init 90 = .ok (.sipush 600, 3) := by decide +kernel
theorem dX4_init_93 : decode cX4_init 93 = .ok (.newarray .int, 2) := by decide +kernel
theorem dX4_init_95 : decode cX4_init 95 = .ok (.putfield 41, 3) := by decide +kernel
theorem dX4_init_98 : decode cX4_init 98 = .ok (.aload_n 0, 1) := by decide +kernel
theorem dX4_init_99 : decode cX4_init 99 = .ok (.sipush 600, 3) := by decide +kernel
theorem dX4_init_102 : decode cX4_init 102 = .ok (.newarray .int, 2) := by decide +kernel
theorem dX4_init_104 : decode cX4_init 104 = .ok (.putfield 44, 3) := by decide +kernel
theorem dX4_init_107 : decode cX4_init 107 = .ok (.aload_n 0, 1) := by decide +kernel
theorem dX4_init_108 : decode cX4_init 108 = .ok (.sipush 240, 3) := by decide +kernel
theorem dX4_init_111 : decode cX4_init 111 = .ok (.newarray .int, 2) := by decide +kernel
theorem dX4_init_113 : decode cX4_init 113 = .ok (.putfield 47, 3) := by decide +kernel
theorem dX4_init_116 : decode cX4_init 116 = .ok (.return_, 1) := by decide +kernel
theorem dX4_thrown_0 : decode cX4_thrown 0 = .ok (.aload_n 0, 1) := by decide +kernel
theorem dX4_thrown_1 : decode cX4_thrown 1 = .ok (.getfield 50, 3) := by decide +kernel
theorem dX4_thrown_4 : decode cX4_thrown 4 = .ok (.ireturn, 1) := by decide +kernel
theorem dX4_isObject_0 : decode cX4_isObject 0 = .ok (.iload_n 1, 1) := by decide +kernel
theorem dX4_isObject_1 : decode cX4_isObject 1 = .ok (.ifCond .lt 24, 3) := by decide +kernel
theorem dX4_isObject_4 : decode cX4_isObject 4 = .ok (.iload_n 1, 1) := by decide +kernel
theorem dX4_isObject_5 : decode cX4_isObject 5 = .ok (.aload_n 0, 1) := by decide +kernel
theorem dX4_isObject_6 : decode cX4_isObject 6 = .ok (.getfield 54, 3) := by decide +kernel
theorem dX4_isObject_9 : decode cX4_isObject 9 = .ok (.if_icmp .ge 16, 3) := by decide +kernel
theorem dX4_isObject_12 : decode cX4_isObject 12 = .ok (.aload_n 0, 1) := by decide +kernel
theorem dX4_isObject_13 : decode cX4_isObject 13 = .ok (.getfield 7, 3) := by decide +kernel
theorem dX4_isObject_16 : decode cX4_isObject 16 = .ok (.iload_n 1, 1) := by decide +kernel
theorem dX4_isObject_17 : decode cX4_isObject 17 = .ok (.baload, 1) := by decide +kernel
theorem dX4_isObject_18 : decode cX4_isObject 18 = .ok (.ifCond .eq 7, 3) := by decide +kernel
theorem dX4_isObject_21 : decode cX4_isObject 21 = .ok (.iconst 1, 1) := by decide +kernel
theorem dX4_isObject_22 : decode cX4_isObject 22 = .ok (.goto 4, 3) := by decide +kernel
theorem dX4_isObject_25 : decode cX4_isObject 25 = .ok (.iconst 0, 1) := by decide +kernel
theorem dX4_isObject_26 : decode cX4_isObject 26 = .ok (.ireturn, 1) := by decide +kernel
theorem dX4_isValue_0 : decode cX4_isValue 0 = .ok (.iload_n 1, 1) := by decide +kernel
theorem dX4_isValue_1 : decode cX4_isValue 1 = .ok (.ifCond .ge 13, 3) := by decide +kernel
theorem dX4_isValue_4 : decode cX4_isValue 4 = .ok (.aload_n 0, 1) := by decide +kernel
theorem dX4_isValue_5 : decode cX4_isValue 5 = .ok (.iconst (-1), 1) := by decide +kernel
theorem dX4_isValue_6 : decode cX4_isValue 6 = .ok (.iload_n 1, 1) := by decide +kernel
theorem dX4_isValue_7 : decode cX4_isValue 7 = .ok (.isub, 1) := by decide +kernel
theorem dX4_isValue_8 : decode cX4_isValue 8 = .ok (.invokevirtual 57, 3) := by decide +kernel
theorem dX4_isValue_11 : decode cX4_isValue 11 = .ok (.ifCond .eq 7, 3) := by decide +kernel
theorem dX4_isValue_14 : decode cX4_isValue 14 = .ok (.iconst 1, 1) := by decide +kernel
theorem dX4_isValue_15 : decode cX4_isValue 15 = .ok (.goto 4, 3) := by decide +kernel
theorem dX4_isValue_18 : decode cX4_isValue 18 = .ok (.iconst 0, 1) := by decide +kernel
theorem dX4_isValue_19 : decode cX4_isValue 19 = .ok (.ireturn, 1) := by decide +kernel
theorem dX4_isEight_0 : decode cX4_isEight 0 = .ok (.iload_n 0, 1) := by decide +kernel
theorem dX4_isEight_1 : decode cX4_isEight 1 = .ok (.ifCond .lt 13, 3) := by decide +kernel
theorem dX4_isEight_4 : decode cX4_isEight 4 = .ok (.iload_n 0, 1) := by decide +kernel
theorem dX4_isEight_5 : decode cX4_isEight 5 = .ok (.bipush 8, 2) := by decide +kernel
theorem dX4_isEight_7 : decode cX4_isEight 7 = .ok (.if_icmp .ge 7, 3) := by decide +kernel
theorem dX4_isEight_10 : decode cX4_isEight 10 = .ok (.iconst 1, 1) := by decide +kernel
theorem dX4_isEight_11 : decode cX4_isEight 11 = .ok (.goto 4, 3) := by decide +kernel
theorem dX4_isEight_14 : decode cX4_isEight 14 = .ok (.iconst 0, 1) := by decide +kernel
theorem dX4_isEight_15 : decode cX4_isEight 15 = .ok (.ireturn, 1) := by decide +kernel
theorem dX4_object_0 : decode cX4_object 0 = .ok (.aload_n 0, 1) := by decide +kernel
theorem dX4_object_1 : decode cX4_object 1 = .ok (.aload_n 0, 1) := by decide +kernel
theorem dX4_object_2 : decode cX4_object 2 = .ok (.getfield 61, 3) := by decide +kernel
theorem dX4_object_5 : decode cX4_object 5 = .ok (.sipush 200, 3) := by decide +kernel
theorem dX4_object_8 : decode cX4_object 8 = .ok (.if_icmp .ne 7, 3) := by decide +kernel
theorem dX4_object_11 : decode cX4_object 11 = .ok (.iconst 1, 1) := by decide +kernel
theorem dX4_object_12 : decode cX4_object 12 = .ok (.goto 4, 3) := by decide +kernel
theorem dX4_object_15 : decode cX4_object 15 = .ok (.iconst 0, 1) := by decide +kernel
theorem dX4_object_16 : decode cX4_object 16 = .ok (.putfield 50, 3) := by decide +kernel
theorem dX4_object_19 : decode cX4_object 19 = .ok (.aload_n 0, 1) := by decide +kernel
theorem dX4_object_20 : decode cX4_object 20 = .ok (.getfield 50, 3) := by decide +kernel
theorem dX4_object_23 : decode cX4_object 23 = .ok (.ifCond .le 5, 3) := by decide +kernel
theorem dX4_object_26 : decode cX4_object 26 = .ok (.iconst 0, 1) := by decide +kernel
theorem dX4_object_27 : decode cX4_object 27 = .ok (.ireturn, 1) := by decide +kernel
theorem dX4_object_28 : decode cX4_object 28 = .ok (.aload_n 0, 1) := by decide +kernel
theorem dX4_object_29 : decode cX4_object 29 = .ok (.getfield 7, 3) := by decide +kernel
theorem dX4_object_32 : decode cX4_object 32 = .ok (.aload_n 0, 1) := by decide +kernel
theorem dX4_object_33 : decode cX4_object 33 = .ok (.getfield 54, 3) := by decide +kernel
theorem dX4_object_36 : decode cX4_object 36 = .ok (.iconst 1, 1) := by decide +kernel
theorem dX4_object_37 : decode cX4_object 37 = .ok (.bastore, 1) := by decide +kernel
theorem dX4_object_38 : decode cX4_object 38 = .ok (.aload_n 0, 1) := by decide +kernel
theorem dX4_object_39 : decode cX4_object 39 = .ok (.getfield 13, 3) := by decide +kernel
theorem dX4_object_42 : decode cX4_object 42 = .ok (.aload_n 0, 1) := by decide +kernel
theorem dX4_object_43 : decode cX4_object 43 = .ok (.getfield 54, 3) := by decide +kernel
theorem dX4_object_46 : decode cX4_object 46 = .ok (.iload_n 1, 1) := by decide +kernel
theorem dX4_object_47 : decode cX4_object 47 = .ok (.bastore, 1) := by decide +kernel
theorem dX4_object_48 : decode cX4_object 48 = .ok (.aload_n 0, 1) := by decide +kernel
theorem dX4_object_49 : decode cX4_object 49 = .ok (.dup, 1) := by decide +kernel
theorem dX4_object_50 : decode cX4_object 50 = .ok (.getfield 61, 3) := by decide +kernel
theorem dX4_object_53 : decode cX4_object 53 = .ok (.iconst 1, 1) := by decide +kernel
theorem dX4_object_54 : decode cX4_object 54 = .ok (.iadd, 1) := by decide +kernel
theorem dX4_object_55 : decode cX4_object 55 = .ok (.putfield 61, 3) := by decide +kernel
theorem dX4_object_58 : decode cX4_object 58 = .ok (.aload_n 0, 1) := by decide +kernel
theorem dX4_object_59 : decode cX4_object 59 = .ok (.dup, 1) := by decide +kernel
theorem dX4_object_60 : decode cX4_object 60 = .ok (.getfield 54, 3) := by decide +kernel
theorem dX4_object_63 : decode cX4_object 63 = .ok (.iconst 1, 1) := by decide +kernel
theorem dX4_object_64 : decode cX4_object 64 = .ok (.iadd, 1) := by decide +kernel
theorem dX4_object_65 : decode cX4_object 65 = .ok (.putfield 54, 3) := by decide +kernel
theorem dX4_object_68 : decode cX4_object 68 = .ok (.aload_n 0, 1) := by decide +kernel
theorem dX4_object_69 : decode cX4_object 69 = .ok (.getfield 54, 3) := by decide +kernel
theorem dX4_object_72 : decode cX4_object 72 = .ok (.iconst 1, 1) := by decide +kernel
theorem dX4_object_73 : decode cX4_object 73 = .ok (.isub, 1) := by decide +kernel
theorem dX4_object_74 : decode cX4_object 74 = .ok (.ireturn, 1) := by decide +kernel
theorem dX4_keep_0 : decode cX4_keep 0 = .ok (.aload_n 0, 1) := by decide +kernel
theorem dX4_keep_1 : decode cX4_keep 1 = .ok (.getfield 32, 3) := by decide +kernel
theorem dX4_keep_4 : decode cX4_keep 4 = .ok (.aload_n 0, 1) := by decide +kernel
theorem dX4_keep_5 : decode cX4_keep 5 = .ok (.getfield 64, 3) := by decide +kernel
theorem dX4_keep_8 : decode cX4_keep 8 = .ok (.iconst 1, 1) := by decide +kernel
theorem dX4_keep_9 : decode cX4_keep 9 = .ok (.isub, 1) := by decide +kernel
theorem dX4_keep_10 : decode cX4_keep 10 = .ok (.iaload, 1) := by decide +kernel
theorem dX4_keep_11 : decode cX4_keep 11 = .ok (.istore_n 2, 1) := by decide +kernel
theorem dX4_keep_12 : decode cX4_keep 12 = .ok (.iconst 0, 1) := by decide +kernel
theorem dX4_keep_13 : decode cX4_keep 13 = .ok (.istore_n 3, 1) := by decide +kernel
theorem dX4_keep_14 : decode cX4_keep 14 = .ok (.iload_n 2, 1) := by decide +kernel
theorem dX4_keep_15 : decode cX4_keep 15 = .ok (.istore 4, 2) := by decide +kernel
theorem dX4_keep_17 : decode cX4_keep 17 = .ok (.iload 4, 2) := by decide +kernel
theorem dX4_keep_19 : decode cX4_keep 19 = .ok (.aload_n 0, 1) := by decide +kernel
theorem dX4_keep_20 : decode cX4_keep 20 = .ok (.getfield 67, 3) := by decide +kernel
theorem dX4_keep_23 : decode cX4_keep 23 = .ok (.if_icmp .ge 30, 3) := by decide +kernel
theorem dX4_keep_26 : decode cX4_keep 26 = .ok (.iload_n 3, 1) := by decide +kernel
theorem dX4_keep_27 : decode cX4_keep 27 = .ok (.ifCond .ne 14, 3) := by decide +kernel
theorem dX4_keep_30 : decode cX4_keep 30 = .ok (.aload_n 0, 1) := by decide +kernel
theorem dX4_keep_31 : decode cX4_keep 31 = .ok (.getfield 41, 3) := by decide +kernel
theorem dX4_keep_34 : decode cX4_keep 34 = .ok (.iload 4, 2) := by decide +kernel
theorem dX4_keep_36 : decode cX4_keep 36 = .ok (.iaload, 1) := by decide +kernel
theorem dX4_keep_37 : decode cX4_keep 37 = .ok (.iload_n 1, 1) := by decide +kernel
theorem dX4_keep_38 : decode cX4_keep 38 = .ok (.if_icmp .ne 7, 3) := by decide +kernel
theorem dX4_keep_41 : decode cX4_keep 41 = .ok (.iconst 1, 1) := by decide +kernel
theorem dX4_keep_42 : decode cX4_keep 42 = .ok (.goto 4, 3) := by decide +kernel
theorem dX4_keep_45 : decode cX4_keep 45 = .ok (.iconst 0, 1) := by decide +kernel
theorem dX4_keep_46 : decode cX4_keep 46 = .ok (.istore_n 3, 1) := by decide +kernel
theorem dX4_keep_47 : decode cX4_keep 47 = .ok (.iinc 4 1, 3) := by decide +kernel
theorem dX4_keep_50 : decode cX4_keep 50 = .ok (.goto (-33), 3) := by decide +kernel
theorem dX4_keep_53 : decode cX4_keep 53 = .ok (.iload_n 3, 1) := by decide +kernel
theorem dX4_keep_54 : decode cX4_keep 54 = .ok (.ifCond .ne 38, 3) := by decide +kernel
theorem dX4_keep_57 : decode cX4_keep 57 = .ok (.aload_n 0, 1) := by decide +kernel
theorem dX4_keep_58 : decode cX4_keep 58 = .ok (.getfield 41, 3) := by decide +kernel
theorem dX4_keep_61 : decode cX4_keep 61 = .ok (.aload_n 0, 1) := by decide +kernel
theorem dX4_keep_62 : decode cX4_keep 62 = .ok (.getfield 67, 3) := by decide +kernel
theorem dX4_keep_65 : decode cX4_keep 65 = .ok (.iload_n 1, 1) := by decide +kernel
theorem dX4_keep_66 : decode cX4_keep 66 = .ok (.iastore, 1) := by decide +kernel
theorem dX4_keep_67 : decode cX4_keep 67 = .ok (.aload_n 0, 1) := by decide +kernel
theorem dX4_keep_68 : decode cX4_keep 68 = .ok (.getfield 44, 3) := by decide +kernel
theorem dX4_keep_71 : decode cX4_keep 71 = .ok (.aload_n 0, 1) := by decide +kernel
theorem dX4_keep_72 : decode cX4_keep 72 = .ok (.getfield 67, 3) := by decide +kernel
theorem dX4_keep_75 : decode cX4_keep 75 = .ok (.aload_n 0, 1) := by decide +kernel
theorem dX4_keep_76 : decode cX4_keep 76 = .ok (.getfield 16, 3) := by decide +kernel
theorem dX4_keep_79 : decode cX4_keep 79 = .ok (.iload_n 1, 1) := by decide +kernel
theorem dX4_keep_80 : decode cX4_keep 80 = .ok (.iaload, 1) := by decide +kernel
theorem dX4_keep_81 : decode cX4_keep 81 = .ok (.iastore, 1) := by decide +kernel
theorem dX4_keep_82 : decode cX4_keep 82 = .ok (.aload_n 0, 1) := by decide +kernel
theorem dX4_keep_83 : decode cX4_keep 83 = .ok (.dup, 1) := by decide +kernel
theorem dX4_keep_84 : decode cX4_keep 84 = .ok (.getfield 67, 3) := by decide +kernel
theorem dX4_keep_87 : decode cX4_keep 87 = .ok (.iconst 1, 1) := by decide +kernel
theorem dX4_keep_88 : decode cX4_keep 88 = .ok (.iadd, 1) := by decide +kernel
theorem dX4_keep_89 : decode cX4_keep 89 = .ok (.putfield 67, 3) := by decide +kernel
theorem dX4_keep_92 : decode cX4_keep 92 = .ok (.return_, 1) := by decide +kernel
theorem dX4_put_0 : decode cX4_put 0 = .ok (.aload_n 0, 1) := by decide +kernel
theorem dX4_put_1 : decode cX4_put 1 = .ok (.aload_n 0, 1) := by decide +kernel
theorem dX4_put_2 : decode cX4_put 2 = .ok (.iload_n 1, 1) := by decide +kernel
theorem dX4_put_3 : decode cX4_put 3 = .ok (.invokevirtual 57, 3) := by decide +kernel
theorem dX4_put_6 : decode cX4_put 6 = .ok (.ifCond .eq 11, 3) := by decide +kernel
theorem dX4_put_9 : decode cX4_put 9 = .ok (.aload_n 0, 1) := by decide +kernel
theorem dX4_put_10 : decode cX4_put 10 = .ok (.iload_n 3, 1) := by decide +kernel
theorem dX4_put_11 : decode cX4_put 11 = .ok (.invokevirtual 70, 3) := by decide +kernel
theorem dX4_put_14 : decode cX4_put 14 = .ok (.ifCond .ne 7, 3) := by decide +kernel
theorem dX4_put_17 : decode cX4_put 17 = .ok (.iconst 1, 1) := by decide +kernel
theorem dX4_put_18 : decode cX4_put 18 = .ok (.goto 43, 3) := by decide +kernel
theorem dX4_put_21 : decode cX4_put 21 = .ok (.iload_n 2, 1) := by decide +kernel
theorem dX4_put_22 : decode cX4_put 22 = .ok (.invokestatic 73, 3) := by decide +kernel
theorem dX4_put_25 : decode cX4_put 25 = .ok (.ifCond .ne 7, 3) := by decide +kernel
theorem dX4_put_28 : decode cX4_put 28 = .ok (.iconst 2, 1) := by decide +kernel
theorem dX4_put_29 : decode cX4_put 29 = .ok (.goto 32, 3) := by decide +kernel
theorem dX4_put_32 : decode cX4_put 32 = .ok (.aload_n 0, 1) := by decide +kernel
theorem dX4_put_33 : decode cX4_put 33 = .ok (.getfield 13, 3) := by decide +kernel
theorem dX4_put_36 : decode cX4_put 36 = .ok (.iload_n 1, 1) := by decide +kernel
theorem dX4_put_37 : decode cX4_put 37 = .ok (.baload, 1) := by decide +kernel
theorem dX4_put_38 : decode cX4_put 38 = .ok (.ifCond .eq 22, 3) := by decide +kernel
theorem dX4_put_41 : decode cX4_put 41 = .ok (.iload_n 3, 1) := by decide +kernel
theorem dX4_put_42 : decode cX4_put 42 = .ok (.ifCond .ge 18, 3) := by decide +kernel
theorem dX4_put_45 : decode cX4_put 45 = .ok (.aload_n 0, 1) := by decide +kernel
theorem dX4_put_46 : decode cX4_put 46 = .ok (.getfield 13, 3) := by decide +kernel
theorem dX4_put_49 : decode cX4_put 49 = .ok (.iconst (-1), 1) := by decide +kernel
theorem dX4_put_50 : decode cX4_put 50 = .ok (.iload_n 3, 1) := by decide +kernel
theorem dX4_put_51 : decode cX4_put 51 = .ok (.isub, 1) := by decide +kernel
theorem dX4_put_52 : decode cX4_put 52 = .ok (.baload, 1) := by decide +kernel
theorem dX4_put_53 : decode cX4_put 53 = .ok (.ifCond .ne 7, 3) := by decide +kernel
theorem dX4_put_56 : decode cX4_put 56 = .ok (.iconst 3, 1) := by decide +kernel
theorem dX4_put_57 : decode cX4_put 57 = .ok (.goto 4, 3) := by decide +kernel
theorem dX4_put_60 : decode cX4_put 60 = .ok (.iconst 0, 1) := by decide +kernel
theorem dX4_put_61 : decode cX4_put 61 = .ok (.putfield 50, 3) := by decide +kernel
theorem dX4_put_64 : decode cX4_put 64 = .ok (.aload_n 0, 1) := by decide +kernel
theorem dX4_put_65 : decode cX4_put 65 = .ok (.getfield 50, 3) := by decide +kernel
theorem dX4_put_68 : decode cX4_put 68 = .ok (.ifCond .le 5, 3) := by decide +kernel
theorem dX4_put_71 : decode cX4_put 71 = .ok (.iconst 0, 1) := by decide +kernel
theorem dX4_put_72 : decode cX4_put 72 = .ok (.ireturn, 1) := by decide +kernel
theorem dX4_put_73 : decode cX4_put 73 = .ok (.bipush 8, 2) := by decide +kernel
theorem dX4_put_75 : decode cX4_put 75 = .ok (.iload_n 1, 1) := by decide +kernel
theorem dX4_put_76 : decode cX4_put 76 = .ok (.imul, 1) := by decide +kernel
theorem dX4_put_77 : decode cX4_put 77 = .ok (.iload_n 2, 1) := by decide +kernel
theorem dX4_put_78 : decode cX4_put 78 = .ok (.iadd, 1) := by decide +kernel
theorem dX4_put_79 : decode cX4_put 79 = .ok (.istore 4, 2) := by decide +kernel
theorem dX4_put_81 : decode cX4_put 81 = .ok (.aload_n 0, 1) := by decide +kernel
theorem dX4_put_82 : decode cX4_put 82 = .ok (.getfield 16, 3) := by decide +kernel
theorem dX4_put_85 : decode cX4_put 85 = .ok (.iload 4, 2) := by decide +kernel
theorem dX4_put_87 : decode cX4_put 87 = .ok (.iaload, 1) := by decide +kernel
theorem dX4_put_88 : decode cX4_put 88 = .ok (.istore 5, 2) := by decide +kernel
theorem dX4_put_90 : decode cX4_put 90 = .ok (.aload_n 0, 1) := by decide +kernel
theorem dX4_put_91 : decode cX4_put 91 = .ok (.getfield 64, 3) := by decide +kernel
theorem dX4_put_94 : decode cX4_put 94 = .ok (.ifCond .le 33, 3) := by decide +kernel
theorem dX4_put_97 : decode cX4_put 97 = .ok (.aload_n 0, 1) := by decide +kernel
theorem dX4_put_98 : decode cX4_put 98 = .ok (.getfield 13, 3) := by decide +kernel
theorem dX4_put_101 : decode cX4_put 101 = .ok (.iload_n 1, 1) := by decide +kernel
theorem dX4_put_102 : decode cX4_put 102 = .ok (.baload, 1) := by decide +kernel
theorem dX4_put_103 : decode cX4_put 103 = .ok (.ifCond .ne 24, 3) := by decide +kernel
theorem dX4_put_106 : decode cX4_put 106 = .ok (.iload_n 1, 1) := by decide +kernel
theorem dX4_put_107 : decode cX4_put 107 = .ok (.aload_n 0, 1) := by decide +kernel
theorem dX4_put_108 : decode cX4_put 108 = .ok (.getfield 29, 3) := by decide +kernel
theorem dX4_put_111 : decode cX4_put 111 = .ok (.aload_n 0, 1) := by decide +kernel
theorem dX4_put_112 : decode cX4_put 112 = .ok (.getfield 64, 3) := by decide +kernel
theorem dX4_put_115 : decode cX4_put 115 = .ok (.iconst 1, 1) := by decide +kernel
theorem dX4_put_116 : decode cX4_put 116 = .ok (.isub, 1) := by decide +kernel
theorem dX4_put_117 : decode cX4_put 117 = .ok (.iaload, 1) := by decide +kernel
theorem dX4_put_118 : decode cX4_put 118 = .ok (.if_icmp .ge 9, 3) := by decide +kernel
theorem dX4_put_121 : decode cX4_put 121 = .ok (.aload_n 0, 1) := by decide +kernel
theorem dX4_put_122 : decode cX4_put 122 = .ok (.iload 4, 2) := by decide +kernel
theorem dX4_put_124 : decode cX4_put 124 = .ok (.invokevirtual 76, 3) := by decide +kernel
theorem dX4_put_127 : decode cX4_put 127 = .ok (.aload_n 0, 1) := by decide +kernel
theorem dX4_put_128 : decode cX4_put 128 = .ok (.getfield 16, 3) := by decide +kernel
theorem dX4_put_131 : decode cX4_put 131 = .ok (.iload 4, 2) := by decide +kernel
theorem dX4_put_133 : decode cX4_put 133 = .ok (.iload_n 3, 1) := by decide +kernel
theorem dX4_put_134 : decode cX4_put 134 = .ok (.iastore, 1) := by decide +kernel
theorem dX4_put_135 : decode cX4_put 135 = .ok (.iload 5, 2) := by decide +kernel
theorem dX4_put_137 : decode cX4_put 137 = .ok (.ireturn, 1) := by decide +kernel
theorem dX4_get_0 : decode cX4_get 0 = .ok (.aload_n 0, 1) := by decide +kernel
theorem dX4_get_1 : decode cX4_get 1 = .ok (.aload_n 0, 1) := by decide +kernel
theorem dX4_get_2 : decode cX4_get 2 = .ok (.iload_n 1, 1) := by decide +kernel
theorem dX4_get_3 : decode cX4_get 3 = .ok (.invokevirtual 57, 3) := by decide +kernel
theorem dX4_get_6 : decode cX4_get 6 = .ok (.ifCond .ne 7, 3) := by decide +kernel
theorem dX4_get_9 : decode cX4_get 9 = .ok (.iconst 1, 1) := by decide +kernel
theorem dX4_get_10 : decode cX4_get 10 = .ok (.goto 15, 3) := by decide +kernel
theorem dX4_get_13 : decode cX4_get 13 = .ok (.iload_n 2, 1) := by decide +kernel
theorem dX4_get_14 : decode cX4_get 14 = .ok (.invokestatic 73, 3) := by decide +kernel
theorem dX4_get_17 : decode cX4_get 17 = .ok (.ifCond .ne 7, 3) := by decide +kernel
theorem dX4_get_20 : decode cX4_get 20 = .ok (.iconst 2, 1) := by decide +kernel
theorem dX4_get_21 : decode cX4_get 21 = .ok (.goto 4, 3) := by decide +kernel
theorem dX4_get_24 : decode cX4_get 24 = .ok (.iconst 0, 1) := by decide +kernel
theorem dX4_get_25 : decode cX4_get 25 = .ok (.putfield 50, 3) := by decide +kernel
theorem dX4_get_28 : decode cX4_get 28 = .ok (.aload_n 0, 1) := by decide +kernel
theorem dX4_get_29 : decode cX4_get 29 = .ok (.getfield 50, 3) := by decide +kernel
theorem dX4_get_32 : decode cX4_get 32 = .ok (.ifCond .le 7, 3) := by decide +kernel
theorem dX4_get_35 : decode cX4_get 35 = .ok (.iconst 0, 1) := by decide +kernel
theorem dX4_get_36 : decode cX4_get 36 = .ok (.goto 14, 3) := by decide +kernel
theorem dX4_get_39 : decode cX4_get 39 = .ok (.aload_n 0, 1) := by decide +kernel
theorem dX4_get_40 : decode cX4_get 40 = .ok (.getfield 16, 3) := by decide +kernel
theorem dX4_get_43 : decode cX4_get 43 = .ok (.bipush 8, 2) := by decide +kernel
theorem dX4_get_45 : decode cX4_get 45 = .ok (.iload_n 1, 1) := by decide +kernel
theorem dX4_get_46 : decode cX4_get 46 = .ok (.imul, 1) := by decide +kernel
theorem dX4_get_47 : decode cX4_get 47 = .ok (.iload_n 2, 1) := by decide +kernel
theorem dX4_get_48 : decode cX4_get 48 = .ok (.iadd, 1) := by decide +kernel
theorem dX4_get_49 : decode cX4_get 49 = .ok (.iaload, 1) := by decide +kernel
theorem dX4_get_50 : decode cX4_get 50 = .ok (.ireturn, 1) := by decide +kernel
theorem dX4_save_0 : decode cX4_save 0 = .ok (.aload_n 0, 1) := by decide +kernel
theorem dX4_save_1 : decode cX4_save 1 = .ok (.aload_n 0, 1) := by decide +kernel
theorem dX4_save_2 : decode cX4_save 2 = .ok (.getfield 64, 3) := by decide +kernel
theorem dX4_save_5 : decode cX4_save 5 = .ok (.bipush 16, 2) := by decide +kernel
theorem dX4_save_7 : decode cX4_save 7 = .ok (.if_icmp .ne 7, 3) := by decide +kernel
theorem dX4_save_10 : decode cX4_save 10 = .ok (.iconst 1, 1) := by decide +kernel
theorem dX4_save_11 : decode cX4_save 11 = .ok (.goto 4, 3) := by decide +kernel
theorem dX4_save_14 : decode cX4_save 14 = .ok (.iconst 0, 1) := by decide +kernel
theorem dX4_save_15 : decode cX4_save 15 = .ok (.putfield 50, 3) := by decide +kernel
theorem dX4_save_18 : decode cX4_save 18 = .ok (.aload_n 0, 1) := by decide +kernel
theorem dX4_save_19 : decode cX4_save 19 = .ok (.getfield 50, 3) := by decide +kernel
theorem dX4_save_22 : decode cX4_save 22 = .ok (.ifCond .le 5, 3) := by decide +kernel
theorem dX4_save_25 : decode cX4_save 25 = .ok (.iconst 0, 1) := by decide +kernel
theorem dX4_save_26 : decode cX4_save 26 = .ok (.ireturn, 1) := by decide +kernel
theorem dX4_save_27 : decode cX4_save 27 = .ok (.aload_n 0, 1) := by decide +kernel
theorem dX4_save_28 : decode cX4_save 28 = .ok (.dup, 1) := by decide +kernel
theorem dX4_save_29 : decode cX4_save 29 = .ok (.getfield 80, 3) := by decide +kernel
theorem dX4_save_32 : decode cX4_save 32 = .ok (.iconst 1, 1) := by decide +kernel
theorem dX4_save_33 : decode cX4_save 33 = .ok (.iadd, 1) := by decide +kernel
end
section
theorem dX4_save_34 : decode cX4_save 34 = .ok (.putfield 80, 3) := by decide +kernel
theorem dX4_save_37 : decode cX4_save 37 = .ok (.aload_n 0, 1) := by decide +kernel
theorem dX4_save_38 : decode cX4_save 38 = .ok (.getfield 26, 3) := by decide +kernel
theorem dX4_save_41 : decode cX4_save 41 = .ok (.aload_n 0, 1) := by decide +kernel
theorem dX4_save_42 : decode cX4_save 42 = .ok (.getfield 64, 3) := by decide +kernel
theorem dX4_save_45 : decode cX4_save 45 = .ok (.aload_n 0, 1) := by decide +kernel
theorem dX4_save_46 : decode cX4_save 46 = .ok (.getfield 80, 3) := by decide +kernel
theorem dX4_save_49 : decode cX4_save 49 = .ok (.iastore, 1) := by decide +kernel
theorem dX4_save_50 : decode cX4_save 50 = .ok (.aload_n 0, 1) := by decide +kernel
theorem dX4_save_51 : decode cX4_save 51 = .ok (.getfield 29, 3) := by decide +kernel
theorem dX4_save_54 : decode cX4_save 54 = .ok (.aload_n 0, 1) := by decide +kernel
theorem dX4_save_55 : decode cX4_save 55 = .ok (.getfield 64, 3) := by decide +kernel
theorem dX4_save_58 : decode cX4_save 58 = .ok (.aload_n 0, 1) := by decide +kernel
theorem dX4_save_59 : decode cX4_save 59 = .ok (.getfield 54, 3) := by decide +kernel
theorem dX4_save_62 : decode cX4_save 62 = .ok (.iastore, 1) := by decide +kernel
theorem dX4_save_63 : decode cX4_save 63 = .ok (.aload_n 0, 1) := by decide +kernel
theorem dX4_save_64 : decode cX4_save 64 = .ok (.getfield 32, 3) := by decide +kernel
theorem dX4_save_67 : decode cX4_save 67 = .ok (.aload_n 0, 1) := by decide +kernel
theorem dX4_save_68 : decode cX4_save 68 = .ok (.getfield 64, 3) := by decide +kernel
theorem dX4_save_71 : decode cX4_save 71 = .ok (.aload_n 0, 1) := by decide +kernel
theorem dX4_save_72 : decode cX4_save 72 = .ok (.getfield 67, 3) := by decide +kernel
theorem dX4_save_75 : decode cX4_save 75 = .ok (.iastore, 1) := by decide +kernel
theorem dX4_save_76 : decode cX4_save 76 = .ok (.aload_n 0, 1) := by decide +kernel
theorem dX4_save_77 : decode cX4_save 77 = .ok (.getfield 35, 3) := by decide +kernel
theorem dX4_save_80 : decode cX4_save 80 = .ok (.aload_n 0, 1) := by decide +kernel
theorem dX4_save_81 : decode cX4_save 81 = .ok (.getfield 64, 3) := by decide +kernel
theorem dX4_save_84 : decode cX4_save 84 = .ok (.aload_n 0, 1) := by decide +kernel
theorem dX4_save_85 : decode cX4_save 85 = .ok (.getfield 83, 3) := by decide +kernel
theorem dX4_save_88 : decode cX4_save 88 = .ok (.iastore, 1) := by decide +kernel
theorem dX4_save_89 : decode cX4_save 89 = .ok (.iconst 0, 1) := by decide +kernel
theorem dX4_save_90 : decode cX4_save 90 = .ok (.istore_n 1, 1) := by decide +kernel
theorem dX4_save_91 : decode cX4_save 91 = .ok (.iload_n 1, 1) := by decide +kernel
theorem dX4_save_92 : decode cX4_save 92 = .ok (.bipush 10, 2) := by decide +kernel
theorem dX4_save_94 : decode cX4_save 94 = .ok (.if_icmp .ge 29, 3) := by decide +kernel
theorem dX4_save_97 : decode cX4_save 97 = .ok (.aload_n 0, 1) := by decide +kernel
theorem dX4_save_98 : decode cX4_save 98 = .ok (.getfield 38, 3) := by decide +kernel
theorem dX4_save_101 : decode cX4_save 101 = .ok (.bipush 10, 2) := by decide +kernel
theorem dX4_save_103 : decode cX4_save 103 = .ok (.aload_n 0, 1) := by decide +kernel
theorem dX4_save_104 : decode cX4_save 104 = .ok (.getfield 64, 3) := by decide +kernel
theorem dX4_save_107 : decode cX4_save 107 = .ok (.imul, 1) := by decide +kernel
theorem dX4_save_108 : decode cX4_save 108 = .ok (.iload_n 1, 1) := by decide +kernel
theorem dX4_save_109 : decode cX4_save 109 = .ok (.iadd, 1) := by decide +kernel
theorem dX4_save_110 : decode cX4_save 110 = .ok (.aload_n 0, 1) := by decide +kernel
theorem dX4_save_111 : decode cX4_save 111 = .ok (.getfield 23, 3) := by decide +kernel
theorem dX4_save_114 : decode cX4_save 114 = .ok (.iload_n 1, 1) := by decide +kernel
theorem dX4_save_115 : decode cX4_save 115 = .ok (.iaload, 1) := by decide +kernel
theorem dX4_save_116 : decode cX4_save 116 = .ok (.iastore, 1) := by decide +kernel
theorem dX4_save_117 : decode cX4_save 117 = .ok (.iinc 1 1, 3) := by decide +kernel
theorem dX4_save_120 : decode cX4_save 120 = .ok (.goto (-29), 3) := by decide +kernel
theorem dX4_save_123 : decode cX4_save 123 = .ok (.aload_n 0, 1) := by decide +kernel
theorem dX4_save_124 : decode cX4_save 124 = .ok (.dup, 1) := by decide +kernel
theorem dX4_save_125 : decode cX4_save 125 = .ok (.getfield 64, 3) := by decide +kernel
theorem dX4_save_128 : decode cX4_save 128 = .ok (.iconst 1, 1) := by decide +kernel
theorem dX4_save_129 : decode cX4_save 129 = .ok (.iadd, 1) := by decide +kernel
theorem dX4_save_130 : decode cX4_save 130 = .ok (.putfield 64, 3) := by decide +kernel
theorem dX4_save_133 : decode cX4_save 133 = .ok (.aload_n 0, 1) := by decide +kernel
theorem dX4_save_134 : decode cX4_save 134 = .ok (.aload_n 0, 1) := by decide +kernel
theorem dX4_save_135 : decode cX4_save 135 = .ok (.getfield 64, 3) := by decide +kernel
theorem dX4_save_138 : decode cX4_save 138 = .ok (.aload_n 0, 1) := by decide +kernel
theorem dX4_save_139 : decode cX4_save 139 = .ok (.getfield 86, 3) := by decide +kernel
theorem dX4_save_142 : decode cX4_save 142 = .ok (.if_icmp .le 10, 3) := by decide +kernel
theorem dX4_save_145 : decode cX4_save 145 = .ok (.aload_n 0, 1) := by decide +kernel
theorem dX4_save_146 : decode cX4_save 146 = .ok (.getfield 64, 3) := by decide +kernel
theorem dX4_save_149 : decode cX4_save 149 = .ok (.goto 7, 3) := by decide +kernel
theorem dX4_save_152 : decode cX4_save 152 = .ok (.aload_n 0, 1) := by decide +kernel
theorem dX4_save_153 : decode cX4_save 153 = .ok (.getfield 86, 3) := by decide +kernel
theorem dX4_save_156 : decode cX4_save 156 = .ok (.putfield 86, 3) := by decide +kernel
theorem dX4_save_159 : decode cX4_save 159 = .ok (.aload_n 0, 1) := by decide +kernel
theorem dX4_save_160 : decode cX4_save 160 = .ok (.getfield 80, 3) := by decide +kernel
theorem dX4_save_163 : decode cX4_save 163 = .ok (.ireturn, 1) := by decide +kernel
theorem dX4_isLive_0 : decode cX4_isLive 0 = .ok (.iconst 0, 1) := by decide +kernel
theorem dX4_isLive_1 : decode cX4_isLive 1 = .ok (.istore_n 2, 1) := by decide +kernel
theorem dX4_isLive_2 : decode cX4_isLive 2 = .ok (.iconst 0, 1) := by decide +kernel
theorem dX4_isLive_3 : decode cX4_isLive 3 = .ok (.istore_n 3, 1) := by decide +kernel
theorem dX4_isLive_4 : decode cX4_isLive 4 = .ok (.iload_n 3, 1) := by decide +kernel
theorem dX4_isLive_5 : decode cX4_isLive 5 = .ok (.aload_n 0, 1) := by decide +kernel
theorem dX4_isLive_6 : decode cX4_isLive 6 = .ok (.getfield 64, 3) := by decide +kernel
theorem dX4_isLive_9 : decode cX4_isLive 9 = .ok (.if_icmp .ge 29, 3) := by decide +kernel
theorem dX4_isLive_12 : decode cX4_isLive 12 = .ok (.iload_n 2, 1) := by decide +kernel
theorem dX4_isLive_13 : decode cX4_isLive 13 = .ok (.ifCond .ne 13, 3) := by decide +kernel
theorem dX4_isLive_16 : decode cX4_isLive 16 = .ok (.aload_n 0, 1) := by decide +kernel
theorem dX4_isLive_17 : decode cX4_isLive 17 = .ok (.getfield 26, 3) := by decide +kernel
theorem dX4_isLive_20 : decode cX4_isLive 20 = .ok (.iload_n 3, 1) := by decide +kernel
theorem dX4_isLive_21 : decode cX4_isLive 21 = .ok (.iaload, 1) := by decide +kernel
theorem dX4_isLive_22 : decode cX4_isLive 22 = .ok (.iload_n 1, 1) := by decide +kernel
theorem dX4_isLive_23 : decode cX4_isLive 23 = .ok (.if_icmp .ne 7, 3) := by decide +kernel
theorem dX4_isLive_26 : decode cX4_isLive 26 = .ok (.iconst 1, 1) := by decide +kernel
theorem dX4_isLive_27 : decode cX4_isLive 27 = .ok (.goto 4, 3) := by decide +kernel
theorem dX4_isLive_30 : decode cX4_isLive 30 = .ok (.iconst 0, 1) := by decide +kernel
theorem dX4_isLive_31 : decode cX4_isLive 31 = .ok (.istore_n 2, 1) := by decide +kernel
theorem dX4_isLive_32 : decode cX4_isLive 32 = .ok (.iinc 3 1, 3) := by decide +kernel
theorem dX4_isLive_35 : decode cX4_isLive 35 = .ok (.goto (-31), 3) := by decide +kernel
theorem dX4_isLive_38 : decode cX4_isLive 38 = .ok (.iload_n 2, 1) := by decide +kernel
theorem dX4_isLive_39 : decode cX4_isLive 39 = .ok (.ireturn, 1) := by decide +kernel
theorem dX4_isNewer_0 : decode cX4_isNewer 0 = .ok (.iload_n 1, 1) := by decide +kernel
theorem dX4_isNewer_1 : decode cX4_isNewer 1 = .ok (.ifCond .ge 25, 3) := by decide +kernel
theorem dX4_isNewer_4 : decode cX4_isNewer 4 = .ok (.iconst (-1), 1) := by decide +kernel
theorem dX4_isNewer_5 : decode cX4_isNewer 5 = .ok (.iload_n 1, 1) := by decide +kernel
theorem dX4_isNewer_6 : decode cX4_isNewer 6 = .ok (.isub, 1) := by decide +kernel
theorem dX4_isNewer_7 : decode cX4_isNewer 7 = .ok (.iload_n 2, 1) := by decide +kernel
theorem dX4_isNewer_8 : decode cX4_isNewer 8 = .ok (.if_icmp .lt 18, 3) := by decide +kernel
theorem dX4_isNewer_11 : decode cX4_isNewer 11 = .ok (.aload_n 0, 1) := by decide +kernel
theorem dX4_isNewer_12 : decode cX4_isNewer 12 = .ok (.getfield 13, 3) := by decide +kernel
theorem dX4_isNewer_15 : decode cX4_isNewer 15 = .ok (.iconst (-1), 1) := by decide +kernel
theorem dX4_isNewer_16 : decode cX4_isNewer 16 = .ok (.iload_n 1, 1) := by decide +kernel
theorem dX4_isNewer_17 : decode cX4_isNewer 17 = .ok (.isub, 1) := by decide +kernel
theorem dX4_isNewer_18 : decode cX4_isNewer 18 = .ok (.baload, 1) := by decide +kernel
theorem dX4_isNewer_19 : decode cX4_isNewer 19 = .ok (.ifCond .ne 7, 3) := by decide +kernel
theorem dX4_isNewer_22 : decode cX4_isNewer 22 = .ok (.iconst 1, 1) := by decide +kernel
theorem dX4_isNewer_23 : decode cX4_isNewer 23 = .ok (.goto 4, 3) := by decide +kernel
theorem dX4_isNewer_26 : decode cX4_isNewer 26 = .ok (.iconst 0, 1) := by decide +kernel
theorem dX4_isNewer_27 : decode cX4_isNewer 27 = .ok (.ireturn, 1) := by decide +kernel
theorem dX4_restore_0 : decode cX4_restore 0 = .ok (.aload_n 0, 1) := by decide +kernel
theorem dX4_restore_1 : decode cX4_restore 1 = .ok (.iconst 0, 1) := by decide +kernel
theorem dX4_restore_2 : decode cX4_restore 2 = .ok (.putfield 50, 3) := by decide +kernel
theorem dX4_restore_5 : decode cX4_restore 5 = .ok (.iload_n 1, 1) := by decide +kernel
theorem dX4_restore_6 : decode cX4_restore 6 = .ok (.iconst 1, 1) := by decide +kernel
theorem dX4_restore_7 : decode cX4_restore 7 = .ok (.if_icmp .lt 11, 3) := by decide +kernel
theorem dX4_restore_10 : decode cX4_restore 10 = .ok (.iload_n 1, 1) := by decide +kernel
theorem dX4_restore_11 : decode cX4_restore 11 = .ok (.aload_n 0, 1) := by decide +kernel
theorem dX4_restore_12 : decode cX4_restore 12 = .ok (.getfield 80, 3) := by decide +kernel
theorem dX4_restore_15 : decode cX4_restore 15 = .ok (.if_icmp .le 5, 3) := by decide +kernel
theorem dX4_restore_18 : decode cX4_restore 18 = .ok (.iconst (-1), 1) := by decide +kernel
theorem dX4_restore_19 : decode cX4_restore 19 = .ok (.ireturn, 1) := by decide +kernel
theorem dX4_restore_20 : decode cX4_restore 20 = .ok (.aload_n 0, 1) := by decide +kernel
theorem dX4_restore_21 : decode cX4_restore 21 = .ok (.iload_n 1, 1) := by decide +kernel
theorem dX4_restore_22 : decode cX4_restore 22 = .ok (.invokevirtual 89, 3) := by decide +kernel
theorem dX4_restore_25 : decode cX4_restore 25 = .ok (.ifCond .ne 6, 3) := by decide +kernel
theorem dX4_restore_28 : decode cX4_restore 28 = .ok (.bipush (-2), 2) := by decide +kernel
theorem dX4_restore_30 : decode cX4_restore 30 = .ok (.ireturn, 1) := by decide +kernel
theorem dX4_restore_31 : decode cX4_restore 31 = .ok (.aload_n 0, 1) := by decide +kernel
theorem dX4_restore_32 : decode cX4_restore 32 = .ok (.getfield 26, 3) := by decide +kernel
theorem dX4_restore_35 : decode cX4_restore 35 = .ok (.aload_n 0, 1) := by decide +kernel
theorem dX4_restore_36 : decode cX4_restore 36 = .ok (.getfield 64, 3) := by decide +kernel
theorem dX4_restore_39 : decode cX4_restore 39 = .ok (.iconst 1, 1) := by decide +kernel
theorem dX4_restore_40 : decode cX4_restore 40 = .ok (.isub, 1) := by decide +kernel
theorem dX4_restore_41 : decode cX4_restore 41 = .ok (.iaload, 1) := by decide +kernel
theorem dX4_restore_42 : decode cX4_restore 42 = .ok (.iload_n 1, 1) := by decide +kernel
theorem dX4_restore_43 : decode cX4_restore 43 = .ok (.if_icmp .eq 6, 3) := by decide +kernel
theorem dX4_restore_46 : decode cX4_restore 46 = .ok (.bipush (-3), 2) := by decide +kernel
theorem dX4_restore_48 : decode cX4_restore 48 = .ok (.ireturn, 1) := by decide +kernel
theorem dX4_restore_49 : decode cX4_restore 49 = .ok (.aload_n 0, 1) := by decide +kernel
theorem dX4_restore_50 : decode cX4_restore 50 = .ok (.getfield 64, 3) := by decide +kernel
theorem dX4_restore_53 : decode cX4_restore 53 = .ok (.iconst 1, 1) := by decide +kernel
theorem dX4_restore_54 : decode cX4_restore 54 = .ok (.isub, 1) := by decide +kernel
theorem dX4_restore_55 : decode cX4_restore 55 = .ok (.istore_n 2, 1) := by decide +kernel
theorem dX4_restore_56 : decode cX4_restore 56 = .ok (.aload_n 0, 1) := by decide +kernel
theorem dX4_restore_57 : decode cX4_restore 57 = .ok (.aload_n 0, 1) := by decide +kernel
theorem dX4_restore_58 : decode cX4_restore 58 = .ok (.getfield 23, 3) := by decide +kernel
theorem dX4_restore_61 : decode cX4_restore 61 = .ok (.bipush 8, 2) := by decide +kernel
theorem dX4_restore_63 : decode cX4_restore 63 = .ok (.iaload, 1) := by decide +kernel
theorem dX4_restore_64 : decode cX4_restore 64 = .ok (.aload_n 0, 1) := by decide +kernel
theorem dX4_restore_65 : decode cX4_restore 65 = .ok (.getfield 29, 3) := by decide +kernel
theorem dX4_restore_68 : decode cX4_restore 68 = .ok (.iload_n 2, 1) := by decide +kernel
theorem dX4_restore_69 : decode cX4_restore 69 = .ok (.iaload, 1) := by decide +kernel
theorem dX4_restore_70 : decode cX4_restore 70 = .ok (.invokevirtual 92, 3) := by decide +kernel
theorem dX4_restore_73 : decode cX4_restore 73 = .ok (.ifCond .ne 23, 3) := by decide +kernel
theorem dX4_restore_76 : decode cX4_restore 76 = .ok (.aload_n 0, 1) := by decide +kernel
theorem dX4_restore_77 : decode cX4_restore 77 = .ok (.aload_n 0, 1) := by decide +kernel
theorem dX4_restore_78 : decode cX4_restore 78 = .ok (.getfield 23, 3) := by decide +kernel
theorem dX4_restore_81 : decode cX4_restore 81 = .ok (.bipush 9, 2) := by decide +kernel
theorem dX4_restore_83 : decode cX4_restore 83 = .ok (.iaload, 1) := by decide +kernel
theorem dX4_restore_84 : decode cX4_restore 84 = .ok (.aload_n 0, 1) := by decide +kernel
theorem dX4_restore_85 : decode cX4_restore 85 = .ok (.getfield 29, 3) := by decide +kernel
theorem dX4_restore_88 : decode cX4_restore 88 = .ok (.iload_n 2, 1) := by decide +kernel
theorem dX4_restore_89 : decode cX4_restore 89 = .ok (.iaload, 1) := by decide +kernel
theorem dX4_restore_90 : decode cX4_restore 90 = .ok (.invokevirtual 92, 3) := by decide +kernel
theorem dX4_restore_93 : decode cX4_restore 93 = .ok (.ifCond .eq 6, 3) := by decide +kernel
theorem dX4_restore_96 : decode cX4_restore 96 = .ok (.bipush (-4), 2) := by decide +kernel
theorem dX4_restore_98 : decode cX4_restore 98 = .ok (.ireturn, 1) := by decide +kernel
theorem dX4_restore_99 : decode cX4_restore 99 = .ok (.aload_n 0, 1) := by decide +kernel
theorem dX4_restore_100 : decode cX4_restore 100 = .ok (.getfield 32, 3) := by decide +kernel
theorem dX4_restore_103 : decode cX4_restore 103 = .ok (.iload_n 2, 1) := by decide +kernel
theorem dX4_restore_104 : decode cX4_restore 104 = .ok (.iaload, 1) := by decide +kernel
theorem dX4_restore_105 : decode cX4_restore 105 = .ok (.istore_n 3, 1) := by decide +kernel
theorem dX4_restore_106 : decode cX4_restore 106 = .ok (.iload_n 3, 1) := by decide +kernel
theorem dX4_restore_107 : decode cX4_restore 107 = .ok (.aload_n 0, 1) := by decide +kernel
theorem dX4_restore_108 : decode cX4_restore 108 = .ok (.getfield 67, 3) := by decide +kernel
theorem dX4_restore_111 : decode cX4_restore 111 = .ok (.if_icmp .ge 26, 3) := by decide +kernel
theorem dX4_restore_114 : decode cX4_restore 114 = .ok (.aload_n 0, 1) := by decide +kernel
theorem dX4_restore_115 : decode cX4_restore 115 = .ok (.getfield 16, 3) := by decide +kernel
theorem dX4_restore_118 : decode cX4_restore 118 = .ok (.aload_n 0, 1) := by decide +kernel
theorem dX4_restore_119 : decode cX4_restore 119 = .ok (.getfield 41, 3) := by decide +kernel
theorem dX4_restore_122 : decode cX4_restore 122 = .ok (.iload_n 3, 1) := by decide +kernel
theorem dX4_restore_123 : decode cX4_restore 123 = .ok (.iaload, 1) := by decide +kernel
theorem dX4_restore_124 : decode cX4_restore 124 = .ok (.aload_n 0, 1) := by decide +kernel
theorem dX4_restore_125 : decode cX4_restore 125 = .ok (.getfield 44, 3) := by decide +kernel
theorem dX4_restore_128 : decode cX4_restore 128 = .ok (.iload_n 3, 1) := by decide +kernel
theorem dX4_restore_129 : decode cX4_restore 129 = .ok (.iaload, 1) := by decide +kernel
theorem dX4_restore_130 : decode cX4_restore 130 = .ok (.iastore, 1) := by decide +kernel
theorem dX4_restore_131 : decode cX4_restore 131 = .ok (.iinc 3 1, 3) := by decide +kernel
theorem dX4_restore_134 : decode cX4_restore 134 = .ok (.goto (-28), 3) := by decide +kernel
theorem dX4_restore_137 : decode cX4_restore 137 = .ok (.aload_n 0, 1) := by decide +kernel
theorem dX4_restore_138 : decode cX4_restore 138 = .ok (.aload_n 0, 1) := by decide +kernel
theorem dX4_restore_139 : decode cX4_restore 139 = .ok (.getfield 32, 3) := by decide +kernel
theorem dX4_restore_142 : decode cX4_restore 142 = .ok (.iload_n 2, 1) := by decide +kernel
theorem dX4_restore_143 : decode cX4_restore 143 = .ok (.iaload, 1) := by decide +kernel
theorem dX4_restore_144 : decode cX4_restore 144 = .ok (.putfield 67, 3) := by decide +kernel
theorem dX4_restore_147 : decode cX4_restore 147 = .ok (.aload_n 0, 1) := by decide +kernel
theorem dX4_restore_148 : decode cX4_restore 148 = .ok (.aload_n 0, 1) := by decide +kernel
theorem dX4_restore_149 : decode cX4_restore 149 = .ok (.getfield 35, 3) := by decide +kernel
theorem dX4_restore_152 : decode cX4_restore 152 = .ok (.iload_n 2, 1) := by decide +kernel
theorem dX4_restore_153 : decode cX4_restore 153 = .ok (.iaload, 1) := by decide +kernel
theorem dX4_restore_154 : decode cX4_restore 154 = .ok (.putfield 83, 3) := by decide +kernel
theorem dX4_restore_157 : decode cX4_restore 157 = .ok (.aload_n 0, 1) := by decide +kernel
theorem dX4_restore_158 : decode cX4_restore 158 = .ok (.getfield 29, 3) := by decide +kernel
theorem dX4_restore_161 : decode cX4_restore 161 = .ok (.iload_n 2, 1) := by decide +kernel
theorem dX4_restore_162 : decode cX4_restore 162 = .ok (.iaload, 1) := by decide +kernel
theorem dX4_restore_163 : decode cX4_restore 163 = .ok (.istore_n 3, 1) := by decide +kernel
theorem dX4_restore_164 : decode cX4_restore 164 = .ok (.iload_n 3, 1) := by decide +kernel
theorem dX4_restore_165 : decode cX4_restore 165 = .ok (.aload_n 0, 1) := by decide +kernel
theorem dX4_restore_166 : decode cX4_restore 166 = .ok (.getfield 54, 3) := by decide +kernel
theorem dX4_restore_169 : decode cX4_restore 169 = .ok (.if_icmp .ge 44, 3) := by decide +kernel
theorem dX4_restore_172 : decode cX4_restore 172 = .ok (.aload_n 0, 1) := by decide +kernel
theorem dX4_restore_173 : decode cX4_restore 173 = .ok (.getfield 7, 3) := by decide +kernel
theorem dX4_restore_176 : decode cX4_restore 176 = .ok (.iload_n 3, 1) := by decide +kernel
theorem dX4_restore_177 : decode cX4_restore 177 = .ok (.baload, 1) := by decide +kernel
theorem dX4_restore_178 : decode cX4_restore 178 = .ok (.ifCond .eq 29, 3) := by decide +kernel
theorem dX4_restore_181 : decode cX4_restore 181 = .ok (.aload_n 0, 1) := by decide +kernel
theorem dX4_restore_182 : decode cX4_restore 182 = .ok (.getfield 13, 3) := by decide +kernel
theorem dX4_restore_185 : decode cX4_restore 185 = .ok (.iload_n 3, 1) := by decide +kernel
theorem dX4_restore_186 : decode cX4_restore 186 = .ok (.baload, 1) := by decide +kernel
theorem dX4_restore_187 : decode cX4_restore 187 = .ok (.ifCond .ne 20, 3) := by decide +kernel
theorem dX4_restore_190 : decode cX4_restore 190 = .ok (.aload_n 0, 1) := by decide +kernel
theorem dX4_restore_191 : decode cX4_restore 191 = .ok (.getfield 7, 3) := by decide +kernel
theorem dX4_restore_194 : decode cX4_restore 194 = .ok (.iload_n 3, 1) := by decide +kernel
theorem dX4_restore_195 : decode cX4_restore 195 = .ok (.iconst 0, 1) := by decide +kernel
theorem dX4_restore_196 : decode cX4_restore 196 = .ok (.bastore, 1) := by decide +kernel
theorem dX4_restore_197 : decode cX4_restore 197 = .ok (.aload_n 0, 1) := by decide +kernel
theorem dX4_restore_198 : decode cX4_restore 198 = .ok (.dup, 1) := by decide +kernel
theorem dX4_restore_199 : decode cX4_restore 199 = .ok (.getfield 61, 3) := by decide +kernel
theorem dX4_restore_202 : decode cX4_restore 202 = .ok (.iconst 1, 1) := by decide +kernel
theorem dX4_restore_203 : decode cX4_restore 203 = .ok (.isub, 1) := by decide +kernel
theorem dX4_restore_204 : decode cX4_restore 204 = .ok (.putfield 61, 3) := by decide +kernel
theorem dX4_restore_207 : decode cX4_restore 207 = .ok (.iinc 3 1, 3) := by decide +kernel
theorem dX4_restore_210 : decode cX4_restore 210 = .ok (.goto (-46), 3) := by decide +kernel
theorem dX4_restore_213 : decode cX4_restore 213 = .ok (.iconst 0, 1) := by decide +kernel
theorem dX4_restore_214 : decode cX4_restore 214 = .ok (.istore_n 3, 1) := by decide +kernel
theorem dX4_restore_215 : decode cX4_restore 215 = .ok (.iload_n 3, 1) := by decide +kernel
theorem dX4_restore_216 : decode cX4_restore 216 = .ok (.bipush 8, 2) := by decide +kernel
theorem dX4_restore_218 : decode cX4_restore 218 = .ok (.if_icmp .ge 26, 3) := by decide +kernel
theorem dX4_restore_221 : decode cX4_restore 221 = .ok (.aload_n 0, 1) := by decide +kernel
theorem dX4_restore_222 : decode cX4_restore 222 = .ok (.getfield 23, 3) := by decide +kernel
theorem dX4_restore_225 : decode cX4_restore 225 = .ok (.iload_n 3, 1) := by decide +kernel
theorem dX4_restore_226 : decode cX4_restore 226 = .ok (.aload_n 0, 1) := by decide +kernel
theorem dX4_restore_227 : decode cX4_restore 227 = .ok (.getfield 38, 3) := by decide +kernel
theorem dX4_restore_230 : decode cX4_restore 230 = .ok (.bipush 10, 2) := by decide +kernel
theorem dX4_restore_232 : decode cX4_restore 232 = .ok (.iload_n 2, 1) := by decide +kernel
theorem dX4_restore_233 : decode cX4_restore 233 = .ok (.imul, 1) := by decide +kernel
theorem dX4_restore_234 : decode cX4_restore 234 = .ok (.iload_n 3, 1) := by decide +kernel
theorem dX4_restore_235 : decode cX4_restore 235 = .ok (.iadd, 1) := by decide +kernel
theorem dX4_restore_236 : decode cX4_restore 236 = .ok (.iaload, 1) := by decide +kernel
theorem dX4_restore_237 : decode cX4_restore 237 = .ok (.iastore, 1) := by decide +kernel
theorem dX4_restore_238 : decode cX4_restore 238 = .ok (.iinc 3 1, 3) := by decide +kernel
theorem dX4_restore_241 : decode cX4_restore 241 = .ok (.goto (-26), 3) := by decide +kernel
theorem dX4_restore_244 : decode cX4_restore 244 = .ok (.aload_n 0, 1) := by decide +kernel
theorem dX4_restore_245 : decode cX4_restore 245 = .ok (.iload_n 2, 1) := by decide +kernel
theorem dX4_restore_246 : decode cX4_restore 246 = .ok (.putfield 64, 3) := by decide +kernel
theorem dX4_restore_249 : decode cX4_restore 249 = .ok (.iconst 1, 1) := by decide +kernel
theorem dX4_restore_250 : decode cX4_restore 250 = .ok (.ireturn, 1) := by decide +kernel
theorem dX4_isParameter_0 : decode cX4_isParameter 0 = .ok (.iload_n 0, 1) := by decide +kernel
theorem dX4_isParameter_1 : decode cX4_isParameter 1 = .ok (.ifCond .lt 13, 3) := by decide +kernel
theorem dX4_isParameter_4 : decode cX4_isParameter 4 = .ok (.iload_n 0, 1) := by decide +kernel
theorem dX4_isParameter_5 : decode cX4_isParameter 5 = .ok (.bipush 10, 2) := by decide +kernel
theorem dX4_isParameter_7 : decode cX4_isParameter 7 = .ok (.if_icmp .ge 7, 3) := by decide +kernel
theorem dX4_isParameter_10 : decode cX4_isParameter 10 = .ok (.iconst 1, 1) := by decide +kernel
theorem dX4_isParameter_11 : decode cX4_isParameter 11 = .ok (.goto 4, 3) := by decide +kernel
theorem dX4_isParameter_14 : decode cX4_isParameter 14 = .ok (.iconst 0, 1) := by decide +kernel
theorem dX4_isParameter_15 : decode cX4_isParameter 15 = .ok (.ireturn, 1) := by decide +kernel
theorem dX4_state_0 : decode cX4_state 0 = .ok (.aload_n 0, 1) := by decide +kernel
theorem dX4_state_1 : decode cX4_state 1 = .ok (.aload_n 0, 1) := by decide +kernel
theorem dX4_state_2 : decode cX4_state 2 = .ok (.iload_n 2, 1) := by decide +kernel
theorem dX4_state_3 : decode cX4_state 3 = .ok (.invokevirtual 70, 3) := by decide +kernel
theorem dX4_state_6 : decode cX4_state 6 = .ok (.ifCond .ne 7, 3) := by decide +kernel
theorem dX4_state_9 : decode cX4_state 9 = .ok (.iconst 1, 1) := by decide +kernel
theorem dX4_state_10 : decode cX4_state 10 = .ok (.goto 15, 3) := by decide +kernel
theorem dX4_state_13 : decode cX4_state 13 = .ok (.iload_n 1, 1) := by decide +kernel
theorem dX4_state_14 : decode cX4_state 14 = .ok (.invokestatic 96, 3) := by decide +kernel
theorem dX4_state_17 : decode cX4_state 17 = .ok (.ifCond .ne 7, 3) := by decide +kernel
theorem dX4_state_20 : decode cX4_state 20 = .ok (.iconst 2, 1) := by decide +kernel
theorem dX4_state_21 : decode cX4_state 21 = .ok (.goto 4, 3) := by decide +kernel
theorem dX4_state_24 : decode cX4_state 24 = .ok (.iconst 0, 1) := by decide +kernel
theorem dX4_state_25 : decode cX4_state 25 = .ok (.putfield 50, 3) := by decide +kernel
theorem dX4_state_28 : decode cX4_state 28 = .ok (.aload_n 0, 1) := by decide +kernel
theorem dX4_state_29 : decode cX4_state 29 = .ok (.getfield 50, 3) := by decide +kernel
theorem dX4_state_32 : decode cX4_state 32 = .ok (.ifCond .le 5, 3) := by decide +kernel
theorem dX4_state_35 : decode cX4_state 35 = .ok (.iconst 0, 1) := by decide +kernel
theorem dX4_state_36 : decode cX4_state 36 = .ok (.ireturn, 1) := by decide +kernel
theorem dX4_state_37 : decode cX4_state 37 = .ok (.aload_n 0, 1) := by decide +kernel
theorem dX4_state_38 : decode cX4_state 38 = .ok (.getfield 23, 3) := by decide +kernel
theorem dX4_state_41 : decode cX4_state 41 = .ok (.iload_n 1, 1) := by decide +kernel
theorem dX4_state_42 : decode cX4_state 42 = .ok (.iaload, 1) := by decide +kernel
theorem dX4_state_43 : decode cX4_state 43 = .ok (.istore_n 3, 1) := by decide +kernel
theorem dX4_state_44 : decode cX4_state 44 = .ok (.aload_n 0, 1) := by decide +kernel
theorem dX4_state_45 : decode cX4_state 45 = .ok (.getfield 23, 3) := by decide +kernel
theorem dX4_state_48 : decode cX4_state 48 = .ok (.iload_n 1, 1) := by decide +kernel
theorem dX4_state_49 : decode cX4_state 49 = .ok (.iload_n 2, 1) := by decide +kernel
theorem dX4_state_50 : decode cX4_state 50 = .ok (.iastore, 1) := by decide +kernel
theorem dX4_state_51 : decode cX4_state 51 = .ok (.iload_n 3, 1) := by decide +kernel
theorem dX4_state_52 : decode cX4_state 52 = .ok (.ireturn, 1) := by decide +kernel
theorem dX4_stateOf_0 : decode cX4_stateOf 0 = .ok (.aload_n 0, 1) := by decide +kernel
theorem dX4_stateOf_1 : decode cX4_stateOf 1 = .ok (.iload_n 1, 1) := by decide +kernel
theorem dX4_stateOf_2 : decode cX4_stateOf 2 = .ok (.invokestatic 96, 3) := by decide +kernel
theorem dX4_stateOf_5 : decode cX4_stateOf 5 = .ok (.ifCond .eq 7, 3) := by decide +kernel
theorem dX4_stateOf_8 : decode cX4_stateOf 8 = .ok (.iconst 0, 1) := by decide +kernel
theorem dX4_stateOf_9 : decode cX4_stateOf 9 = .ok (.goto 4, 3) := by decide +kernel
theorem dX4_stateOf_12 : decode cX4_stateOf 12 = .ok (.iconst 1, 1) := by decide +kernel
theorem dX4_stateOf_13 : decode cX4_stateOf 13 = .ok (.putfield 50, 3) := by decide +kernel
theorem dX4_stateOf_16 : decode cX4_stateOf 16 = .ok (.aload_n 0, 1) := by decide +kernel
theorem dX4_stateOf_17 : decode cX4_stateOf 17 = .ok (.getfield 50, 3) := by decide +kernel
theorem dX4_stateOf_20 : decode cX4_stateOf 20 = .ok (.ifCond .le 7, 3) := by decide +kernel
theorem dX4_stateOf_23 : decode cX4_stateOf 23 = .ok (.iconst 0, 1) := by decide +kernel
theorem dX4_stateOf_24 : decode cX4_stateOf 24 = .ok (.goto 9, 3) := by decide +kernel
theorem dX4_stateOf_27 : decode cX4_stateOf 27 = .ok (.aload_n 0, 1) := by decide +kernel
theorem dX4_stateOf_28 : decode cX4_stateOf 28 = .ok (.getfield 23, 3) := by decide +kernel
theorem dX4_stateOf_31 : decode cX4_stateOf 31 = .ok (.iload_n 1, 1) := by decide +kernel
theorem dX4_stateOf_32 : decode cX4_stateOf 32 = .ok (.iaload, 1) := by decide +kernel
theorem dX4_stateOf_33 : decode cX4_stateOf 33 = .ok (.ireturn, 1) := by decide +kernel
theorem dX4_ownStates_0 : decode cX4_ownStates 0 = .ok (.aload_n 0, 1) := by decide +kernel
theorem dX4_ownStates_1 : decode cX4_ownStates 1 = .ok (.getfield 64, 3) := by decide +kernel
theorem dX4_ownStates_4 : decode cX4_ownStates 4 = .ok (.ifCond .ne 10, 3) := by decide +kernel
theorem dX4_ownStates_7 : decode cX4_ownStates 7 = .ok (.aload_n 0, 1) := by decide +kernel
theorem dX4_ownStates_8 : decode cX4_ownStates 8 = .ok (.getfield 83, 3) := by decide +kernel
theorem dX4_ownStates_11 : decode cX4_ownStates 11 = .ok (.goto 19, 3) := by decide +kernel
theorem dX4_ownStates_14 : decode cX4_ownStates 14 = .ok (.aload_n 0, 1) := by decide +kernel
theorem dX4_ownStates_15 : decode cX4_ownStates 15 = .ok (.getfield 83, 3) := by decide +kernel
theorem dX4_ownStates_18 : decode cX4_ownStates 18 = .ok (.aload_n 0, 1) := by decide +kernel
theorem dX4_ownStates_19 : decode cX4_ownStates 19 = .ok (.getfield 35, 3) := by decide +kernel
theorem dX4_ownStates_22 : decode cX4_ownStates 22 = .ok (.aload_n 0, 1) := by decide +kernel
theorem dX4_ownStates_23 : decode cX4_ownStates 23 = .ok (.getfield 64, 3) := by decide +kernel
theorem dX4_ownStates_26 : decode cX4_ownStates 26 = .ok (.iconst 1, 1) := by decide +kernel
theorem dX4_ownStates_27 : decode cX4_ownStates 27 = .ok (.isub, 1) := by decide +kernel
theorem dX4_ownStates_28 : decode cX4_ownStates 28 = .ok (.iaload, 1) := by decide +kernel
theorem dX4_ownStates_29 : decode cX4_ownStates 29 = .ok (.isub, 1) := by decide +kernel
theorem dX4_ownStates_30 : decode cX4_ownStates 30 = .ok (.ireturn, 1) := by decide +kernel
theorem dX4_push_0 : decode cX4_push 0 = .ok (.aload_n 0, 1) := by decide +kernel
theorem dX4_push_1 : decode cX4_push 1 = .ok (.aload_n 0, 1) := by decide +kernel
theorem dX4_push_2 : decode cX4_push 2 = .ok (.getfield 83, 3) := by decide +kernel
theorem dX4_push_5 : decode cX4_push 5 = .ok (.bipush 30, 2) := by decide +kernel
theorem dX4_push_7 : decode cX4_push 7 = .ok (.if_icmp .ne 7, 3) := by decide +kernel
theorem dX4_push_10 : decode cX4_push 10 = .ok (.iconst 1, 1) := by decide +kernel
theorem dX4_push_11 : decode cX4_push 11 = .ok (.goto 4, 3) := by decide +kernel
theorem dX4_push_14 : decode cX4_push 14 = .ok (.iconst 0, 1) := by decide +kernel
theorem dX4_push_15 : decode cX4_push 15 = .ok (.putfield 50, 3) := by decide +kernel
theorem dX4_push_18 : decode cX4_push 18 = .ok (.aload_n 0, 1) := by decide +kernel
theorem dX4_push_19 : decode cX4_push 19 = .ok (.getfield 50, 3) := by decide +kernel
theorem dX4_push_22 : decode cX4_push 22 = .ok (.ifCond .le 5, 3) := by decide +kernel
theorem dX4_push_25 : decode cX4_push 25 = .ok (.iconst 0, 1) := by decide +kernel
theorem dX4_push_26 : decode cX4_push 26 = .ok (.ireturn, 1) := by decide +kernel
theorem dX4_push_27 : decode cX4_push 27 = .ok (.iconst 0, 1) := by decide +kernel
theorem dX4_push_28 : decode cX4_push 28 = .ok (.istore_n 1, 1) := by decide +kernel
theorem dX4_push_29 : decode cX4_push 29 = .ok (.iload_n 1, 1) := by decide +kernel
theorem dX4_push_30 : decode cX4_push 30 = .ok (.bipush 8, 2) := by decide +kernel
theorem dX4_push_32 : decode cX4_push 32 = .ok (.if_icmp .ge 29, 3) := by decide +kernel
theorem dX4_push_35 : decode cX4_push 35 = .ok (.aload_n 0, 1) := by decide +kernel
theorem dX4_push_36 : decode cX4_push 36 = .ok (.getfield 47, 3) := by decide +kernel
theorem dX4_push_39 : decode cX4_push 39 = .ok (.bipush 8, 2) := by decide +kernel
theorem dX4_push_41 : decode cX4_push 41 = .ok (.aload_n 0, 1) := by decide +kernel
theorem dX4_push_42 : decode cX4_push 42 = .ok (.getfield 83, 3) := by decide +kernel
theorem dX4_push_45 : decode cX4_push 45 = .ok (.imul, 1) := by decide +kernel
theorem dX4_push_46 : decode cX4_push 46 = .ok (.iload_n 1, 1) := by decide +kernel
theorem dX4_push_47 : decode cX4_push 47 = .ok (.iadd, 1) := by decide +kernel
theorem dX4_push_48 : decode cX4_push 48 = .ok (.aload_n 0, 1) := by decide +kernel
theorem dX4_push_49 : decode cX4_push 49 = .ok (.getfield 23, 3) := by decide +kernel
theorem dX4_push_52 : decode cX4_push 52 = .ok (.iload_n 1, 1) := by decide +kernel
theorem dX4_push_53 : decode cX4_push 53 = .ok (.iaload, 1) := by decide +kernel
theorem dX4_push_54 : decode cX4_push 54 = .ok (.iastore, 1) := by decide +kernel
theorem dX4_push_55 : decode cX4_push 55 = .ok (.iinc 1 1, 3) := by decide +kernel
theorem dX4_push_58 : decode cX4_push 58 = .ok (.goto (-29), 3) := by decide +kernel
theorem dX4_push_61 : decode cX4_push 61 = .ok (.aload_n 0, 1) := by decide +kernel
theorem dX4_push_62 : decode cX4_push 62 = .ok (.dup, 1) := by decide +kernel
theorem dX4_push_63 : decode cX4_push 63 = .ok (.getfield 83, 3) := by decide +kernel
theorem dX4_push_66 : decode cX4_push 66 = .ok (.iconst 1, 1) := by decide +kernel
theorem dX4_push_67 : decode cX4_push 67 = .ok (.iadd, 1) := by decide +kernel
theorem dX4_push_68 : decode cX4_push 68 = .ok (.putfield 83, 3) := by decide +kernel
theorem dX4_push_71 : decode cX4_push 71 = .ok (.aload_n 0, 1) := by decide +kernel
theorem dX4_push_72 : decode cX4_push 72 = .ok (.invokevirtual 99, 3) := by decide +kernel
theorem dX4_push_75 : decode cX4_push 75 = .ok (.ireturn, 1) := by decide +kernel
theorem dX4_pop_0 : decode cX4_pop 0 = .ok (.aload_n 0, 1) := by decide +kernel
theorem dX4_pop_1 : decode cX4_pop 1 = .ok (.iconst 0, 1) := by decide +kernel
theorem dX4_pop_2 : decode cX4_pop 2 = .ok (.putfield 50, 3) := by decide +kernel
theorem dX4_pop_5 : decode cX4_pop 5 = .ok (.aload_n 0, 1) := by decide +kernel
theorem dX4_pop_6 : decode cX4_pop 6 = .ok (.invokevirtual 99, 3) := by decide +kernel
theorem dX4_pop_9 : decode cX4_pop 9 = .ok (.ifCond .ne 5, 3) := by decide +kernel
theorem dX4_pop_12 : decode cX4_pop 12 = .ok (.iconst (-1), 1) := by decide +kernel
theorem dX4_pop_13 : decode cX4_pop 13 = .ok (.ireturn, 1) := by decide +kernel
theorem dX4_pop_14 : decode cX4_pop 14 = .ok (.aload_n 0, 1) := by decide +kernel
theorem dX4_pop_15 : decode cX4_pop 15 = .ok (.dup, 1) := by decide +kernel
theorem dX4_pop_16 : decode cX4_pop 16 = .ok (.getfield 83, 3) := by decide +kernel
theorem dX4_pop_19 : decode cX4_pop 19 = .ok (.iconst 1, 1) := by decide +kernel
theorem dX4_pop_20 : decode cX4_pop 20 = .ok (.isub, 1) := by decide +kernel
theorem dX4_pop_21 : decode cX4_pop 21 = .ok (.putfield 83, 3) := by decide +kernel
theorem dX4_pop_24 : decode cX4_pop 24 = .ok (.iconst 0, 1) := by decide +kernel
theorem dX4_pop_25 : decode cX4_pop 25 = .ok (.istore_n 1, 1) := by decide +kernel
theorem dX4_pop_26 : decode cX4_pop 26 = .ok (.iload_n 1, 1) := by decide +kernel
theorem dX4_pop_27 : decode cX4_pop 27 = .ok (.bipush 8, 2) := by decide +kernel
theorem dX4_pop_29 : decode cX4_pop 29 = .ok (.if_icmp .ge 29, 3) := by decide +kernel
theorem dX4_pop_32 : decode cX4_pop 32 = .ok (.aload_n 0, 1) := by decide +kernel
theorem dX4_pop_33 : decode cX4_pop 33 = .ok (.getfield 23, 3) := by decide +kernel
theorem dX4_pop_36 : decode cX4_pop 36 = .ok (.iload_n 1, 1) := by decide +kernel
theorem dX4_pop_37 : decode cX4_pop 37 = .ok (.aload_n 0, 1) := by decide +kernel
theorem dX4_pop_38 : decode cX4_pop 38 = .ok (.getfield 47, 3) := by decide +kernel
theorem dX4_pop_41 : decode cX4_pop 41 = .ok (.bipush 8, 2) := by decide +kernel
theorem dX4_pop_43 : decode cX4_pop 43 = .ok (.aload_n 0, 1) := by decide +kernel
theorem dX4_pop_44 : decode cX4_pop 44 = .ok (.getfield 83, 3) := by decide +kernel
theorem dX4_pop_47 : decode cX4_pop 47 = .ok (.imul, 1) := by decide +kernel
theorem dX4_pop_48 : decode cX4_pop 48 = .ok (.iload_n 1, 1) := by decide +kernel
theorem dX4_pop_49 : decode cX4_pop 49 = .ok (.iadd, 1) := by decide +kernel
theorem dX4_pop_50 : decode cX4_pop 50 = .ok (.iaload, 1) := by decide +kernel
theorem dX4_pop_51 : decode cX4_pop 51 = .ok (.iastore, 1) := by decide +kernel
theorem dX4_pop_52 : decode cX4_pop 52 = .ok (.iinc 1 1, 3) := by decide +kernel
theorem dX4_pop_55 : decode cX4_pop 55 = .ok (.goto (-29), 3) := by decide +kernel
theorem dX4_pop_58 : decode cX4_pop 58 = .ok (.aload_n 0, 1) := by decide +kernel
theorem dX4_pop_59 : decode cX4_pop 59 = .ok (.invokevirtual 99, 3) := by decide +kernel
theorem dX4_pop_62 : decode cX4_pop 62 = .ok (.ireturn, 1) := by decide +kernel
theorem dX4_bytes_0 : decode cX4_bytes 0 = .ok (.aload_n 0, 1) := by decide +kernel
theorem dX4_bytes_1 : decode cX4_bytes 1 = .ok (.aload_n 0, 1) := by decide +kernel
theorem dX4_bytes_2 : decode cX4_bytes 2 = .ok (.iload_n 1, 1) := by decide +kernel
theorem dX4_bytes_3 : decode cX4_bytes 3 = .ok (.invokevirtual 57, 3) := by decide +kernel
theorem dX4_bytes_6 : decode cX4_bytes 6 = .ok (.ifCond .ne 7, 3) := by decide +kernel
theorem dX4_bytes_9 : decode cX4_bytes 9 = .ok (.iconst 1, 1) := by decide +kernel
theorem dX4_bytes_10 : decode cX4_bytes 10 = .ok (.goto 27, 3) := by decide +kernel
theorem dX4_bytes_13 : decode cX4_bytes 13 = .ok (.iload_n 2, 1) := by decide +kernel
theorem dX4_bytes_14 : decode cX4_bytes 14 = .ok (.invokestatic 73, 3) := by decide +kernel
theorem dX4_bytes_17 : decode cX4_bytes 17 = .ok (.ifCond .eq 15, 3) := by decide +kernel
theorem dX4_bytes_20 : decode cX4_bytes 20 = .ok (.iload_n 3, 1) := by decide +kernel
theorem dX4_bytes_21 : decode cX4_bytes 21 = .ok (.iconst (-1), 1) := by decide +kernel
theorem dX4_bytes_22 : decode cX4_bytes 22 = .ok (.if_icmp .lt 10, 3) := by decide +kernel
theorem dX4_bytes_25 : decode cX4_bytes 25 = .ok (.iload_n 3, 1) := by decide +kernel
theorem dX4_bytes_26 : decode cX4_bytes 26 = .ok (.sipush 255, 3) := by decide +kernel
theorem dX4_bytes_29 : decode cX4_bytes 29 = .ok (.if_icmp .le 7, 3) := by decide +kernel
theorem dX4_bytes_32 : decode cX4_bytes 32 = .ok (.iconst 2, 1) := by decide +kernel
theorem dX4_bytes_33 : decode cX4_bytes 33 = .ok (.goto 4, 3) := by decide +kernel
theorem dX4_bytes_36 : decode cX4_bytes 36 = .ok (.iconst 0, 1) := by decide +kernel
theorem dX4_bytes_37 : decode cX4_bytes 37 = .ok (.putfield 50, 3) := by decide +kernel
theorem dX4_bytes_40 : decode cX4_bytes 40 = .ok (.aload_n 0, 1) := by decide +kernel
theorem dX4_bytes_41 : decode cX4_bytes 41 = .ok (.getfield 50, 3) := by decide +kernel
theorem dX4_bytes_44 : decode cX4_bytes 44 = .ok (.ifCond .le 5, 3) := by decide +kernel
theorem dX4_bytes_47 : decode cX4_bytes 47 = .ok (.iconst 0, 1) := by decide +kernel
theorem dX4_bytes_48 : decode cX4_bytes 48 = .ok (.ireturn, 1) := by decide +kernel
theorem dX4_bytes_49 : decode cX4_bytes 49 = .ok (.bipush 8, 2) := by decide +kernel
theorem dX4_bytes_51 : decode cX4_bytes 51 = .ok (.iload_n 1, 1) := by decide +kernel
theorem dX4_bytes_52 : decode cX4_bytes 52 = .ok (.imul, 1) := by decide +kernel
theorem dX4_bytes_53 : decode cX4_bytes 53 = .ok (.iload_n 2, 1) := by decide +kernel
theorem dX4_bytes_54 : decode cX4_bytes 54 = .ok (.iadd, 1) := by decide +kernel
theorem dX4_bytes_55 : decode cX4_bytes 55 = .ok (.istore 4, 2) := by decide +kernel
theorem dX4_bytes_57 : decode cX4_bytes 57 = .ok (.aload_n 0, 1) := by decide +kernel
theorem dX4_bytes_58 : decode cX4_bytes 58 = .ok (.getfield 20, 3) := by decide +kernel
theorem dX4_bytes_61 : decode cX4_bytes 61 = .ok (.iload 4, 2) := by decide +kernel
theorem dX4_bytes_63 : decode cX4_bytes 63 = .ok (.iaload, 1) := by decide +kernel
theorem dX4_bytes_64 : decode cX4_bytes 64 = .ok (.istore 5, 2) := by decide +kernel
theorem dX4_bytes_66 : decode cX4_bytes 66 = .ok (.aload_n 0, 1) := by decide +kernel
theorem dX4_bytes_67 : decode cX4_bytes 67 = .ok (.getfield 20, 3) := by decide +kernel
theorem dX4_bytes_70 : decode cX4_bytes 70 = .ok (.iload 4, 2) := by decide +kernel
theorem dX4_bytes_72 : decode cX4_bytes 72 = .ok (.iload_n 3, 1) := by decide +kernel
theorem dX4_bytes_73 : decode cX4_bytes 73 = .ok (.ifCond .lt 7, 3) := by decide +kernel
theorem dX4_bytes_76 : decode cX4_bytes 76 = .ok (.iload_n 3, 1) := by decide +kernel
theorem dX4_bytes_77 : decode cX4_bytes 77 = .ok (.goto 5, 3) := by decide +kernel
theorem dX4_bytes_80 : decode cX4_bytes 80 = .ok (.iload 5, 2) := by decide +kernel
theorem dX4_bytes_82 : decode cX4_bytes 82 = .ok (.iastore, 1) := by decide +kernel
theorem dX4_bytes_83 : decode cX4_bytes 83 = .ok (.iload 5, 2) := by decide +kernel
theorem dX4_bytes_85 : decode cX4_bytes 85 = .ok (.ireturn, 1) := by decide +kernel
theorem dX4_used_0 : decode cX4_used 0 = .ok (.aload_n 0, 1) := by decide +kernel
theorem dX4_used_1 : decode cX4_used 1 = .ok (.iconst 0, 1) := by decide +kernel
theorem dX4_used_2 : decode cX4_used 2 = .ok (.putfield 50, 3) := by decide +kernel
theorem dX4_used_5 : decode cX4_used 5 = .ok (.bipush 12, 2) := by decide +kernel
theorem dX4_used_7 : decode cX4_used 7 = .ok (.aload_n 0, 1) := by decide +kernel
theorem dX4_used_8 : decode cX4_used 8 = .ok (.getfield 61, 3) := by decide +kernel
theorem dX4_used_11 : decode cX4_used 11 = .ok (.imul, 1) := by decide +kernel
theorem dX4_used_12 : decode cX4_used 12 = .ok (.iconst 3, 1) := by decide +kernel
theorem dX4_used_13 : decode cX4_used 13 = .ok (.aload_n 0, 1) := by decide +kernel
theorem dX4_used_14 : decode cX4_used 14 = .ok (.getfield 67, 3) := by decide +kernel
theorem dX4_used_17 : decode cX4_used 17 = .ok (.imul, 1) := by decide +kernel
theorem dX4_used_18 : decode cX4_used 18 = .ok (.iadd, 1) := by decide +kernel
theorem dX4_used_19 : decode cX4_used 19 = .ok (.bipush 6, 2) := by decide +kernel
theorem dX4_used_21 : decode cX4_used 21 = .ok (.aload_n 0, 1) := by decide +kernel
theorem dX4_used_22 : decode cX4_used 22 = .ok (.getfield 64, 3) := by decide +kernel
theorem dX4_used_25 : decode cX4_used 25 = .ok (.imul, 1) := by decide +kernel
theorem dX4_used_26 : decode cX4_used 26 = .ok (.iadd, 1) := by decide +kernel
theorem dX4_used_27 : decode cX4_used 27 = .ok (.bipush 10, 2) := by decide +kernel
theorem dX4_used_29 : decode cX4_used 29 = .ok (.aload_n 0, 1) := by decide +kernel
theorem dX4_used_30 : decode cX4_used 30 = .ok (.getfield 83, 3) := by decide +kernel
theorem dX4_used_33 : decode cX4_used 33 = .ok (.imul, 1) := by decide +kernel
theorem dX4_used_34 : decode cX4_used 34 = .ok (.iadd, 1) := by decide +kernel
theorem dX4_used_35 : decode cX4_used 35 = .ok (.ireturn, 1) := by decide +kernel
theorem dX4_old_0 : decode cX4_old 0 = .ok (.aload_n 0, 1) := by decide +kernel
theorem dX4_old_1 : decode cX4_old 1 = .ok (.aload_n 0, 1) := by decide +kernel
theorem dX4_old_2 : decode cX4_old 2 = .ok (.iload_n 1, 1) := by decide +kernel
theorem dX4_old_3 : decode cX4_old 3 = .ok (.invokevirtual 57, 3) := by decide +kernel
theorem dX4_old_6 : decode cX4_old 6 = .ok (.ifCond .eq 7, 3) := by decide +kernel
theorem dX4_old_9 : decode cX4_old 9 = .ok (.iconst 0, 1) := by decide +kernel
theorem dX4_old_10 : decode cX4_old 10 = .ok (.goto 4, 3) := by decide +kernel
theorem dX4_old_13 : decode cX4_old 13 = .ok (.iconst 1, 1) := by decide +kernel
theorem dX4_old_14 : decode cX4_old 14 = .ok (.putfield 50, 3) := by decide +kernel
theorem dX4_old_17 : decode cX4_old 17 = .ok (.iconst 0, 1) := by decide +kernel
theorem dX4_old_18 : decode cX4_old 18 = .ok (.istore_n 2, 1) := by decide +kernel
theorem dX4_old_19 : decode cX4_old 19 = .ok (.iconst 0, 1) := by decide +kernel
theorem dX4_old_20 : decode cX4_old 20 = .ok (.istore_n 3, 1) := by decide +kernel
theorem dX4_old_21 : decode cX4_old 21 = .ok (.iload_n 3, 1) := by decide +kernel
theorem dX4_old_22 : decode cX4_old 22 = .ok (.aload_n 0, 1) := by decide +kernel
theorem dX4_old_23 : decode cX4_old 23 = .ok (.getfield 64, 3) := by decide +kernel
theorem dX4_old_26 : decode cX4_old 26 = .ok (.if_icmp .ge 34, 3) := by decide +kernel
theorem dX4_old_29 : decode cX4_old 29 = .ok (.aload_n 0, 1) := by decide +kernel
theorem dX4_old_30 : decode cX4_old 30 = .ok (.getfield 50, 3) := by decide +kernel
theorem dX4_old_33 : decode cX4_old 33 = .ok (.ifCond .ne 27, 3) := by decide +kernel
theorem dX4_old_36 : decode cX4_old 36 = .ok (.iload_n 1, 1) := by decide +kernel
theorem dX4_old_37 : decode cX4_old 37 = .ok (.aload_n 0, 1) := by decide +kernel
theorem dX4_old_38 : decode cX4_old 38 = .ok (.getfield 29, 3) := by decide +kernel
theorem dX4_old_41 : decode cX4_old 41 = .ok (.iload_n 3, 1) := by decide +kernel
theorem dX4_old_42 : decode cX4_old 42 = .ok (.iaload, 1) := by decide +kernel
theorem dX4_old_43 : decode cX4_old 43 = .ok (.if_icmp .lt 9, 3) := by decide +kernel
theorem dX4_old_46 : decode cX4_old 46 = .ok (.iload_n 2, 1) := by decide +kernel
theorem dX4_old_47 : decode cX4_old 47 = .ok (.iconst 1, 1) := by decide +kernel
theorem dX4_old_48 : decode cX4_old 48 = .ok (.iadd, 1) := by decide +kernel
theorem dX4_old_49 : decode cX4_old 49 = .ok (.goto 4, 3) := by decide +kernel
theorem dX4_old_52 : decode cX4_old 52 = .ok (.iload_n 2, 1) := by decide +kernel
theorem dX4_old_53 : decode cX4_old 53 = .ok (.istore_n 2, 1) := by decide +kernel
theorem dX4_old_54 : decode cX4_old 54 = .ok (.iinc 3 1, 3) := by decide +kernel
theorem dX4_old_57 : decode cX4_old 57 = .ok (.goto (-36), 3) := by decide +kernel
theorem dX4_old_60 : decode cX4_old 60 = .ok (.iload_n 2, 1) := by decide +kernel
theorem dX4_old_61 : decode cX4_old 61 = .ok (.ireturn, 1) := by decide +kernel
theorem dX4_deepest_0 : decode cX4_deepest 0 = .ok (.aload_n 0, 1) := by decide +kernel
theorem dX4_deepest_1 : decode cX4_deepest 1 = .ok (.iconst 0, 1) := by decide +kernel
theorem dX4_deepest_2 : decode cX4_deepest 2 = .ok (.putfield 50, 3) := by decide +kernel
theorem dX4_deepest_5 : decode cX4_deepest 5 = .ok (.aload_n 0, 1) := by decide +kernel
theorem dX4_deepest_6 : decode cX4_deepest 6 = .ok (.getfield 86, 3) := by decide +kernel
theorem dX4_deepest_9 : decode cX4_deepest 9 = .ok (.ireturn, 1) := by decide +kernel
theorem dL_object_0 : decode cL_object 0 = .ok (.aload_n 2, 1) := by decide +kernel
theorem dL_object_1 : decode cL_object 1 = .ok (.iconst 0, 1) := by decide +kernel
theorem dL_object_2 : decode cL_object 2 = .ok (.aload_n 0, 1) := by decide +kernel
theorem dL_object_3 : decode cL_object 3 = .ok (.iload_n 1, 1) := by decide +kernel
theorem dL_object_4 : decode cL_object 4 = .ok (.invokevirtual 7, 3) := by decide +kernel
theorem dL_object_7 : decode cL_object 7 = .ok (.i2l, 1) := by decide +kernel
theorem dL_object_8 : decode cL_object 8 = .ok (.lastore, 1) := by decide +kernel
theorem dL_object_9 : decode cL_object 9 = .ok (.goto 6, 3) := by decide +kernel
theorem dL_object_12 : decode cL_object 12 = .ok (.astore_n 3, 1) := by decide +kernel
theorem dL_object_13 : decode cL_object 13 = .ok (.iconst 1, 1) := by decide +kernel
theorem dL_object_14 : decode cL_object 14 = .ok (.ireturn, 1) := by decide +kernel
theorem dL_object_15 : decode cL_object 15 = .ok (.iconst 0, 1) := by decide +kernel
theorem dL_object_16 : decode cL_object 16 = .ok (.ireturn, 1) := by decide +kernel
theorem dL_put_0 : decode cL_put 0 = .ok (.aload 4, 2) := by decide +kernel
theorem dL_put_2 : decode cL_put 2 = .ok (.iconst 0, 1) := by decide +kernel
theorem dL_put_3 : decode cL_put 3 = .ok (.aload_n 0, 1) := by decide +kernel
theorem dL_put_4 : decode cL_put 4 = .ok (.iload_n 1, 1) := by decide +kernel
theorem dL_put_5 : decode cL_put 5 = .ok (.iload_n 2, 1) := by decide +kernel
theorem dL_put_6 : decode cL_put 6 = .ok (.iload_n 3, 1) := by decide +kernel
theorem dL_put_7 : decode cL_put 7 = .ok (.invokevirtual 15, 3) := by decide +kernel
theorem dL_put_10 : decode cL_put 10 = .ok (.i2l, 1) := by decide +kernel
theorem dL_put_11 : decode cL_put 11 = .ok (.lastore, 1) := by decide +kernel
theorem dL_put_12 : decode cL_put 12 = .ok (.goto 15, 3) := by decide +kernel
theorem dL_put_15 : decode cL_put 15 = .ok (.astore 5, 2) := by decide +kernel
theorem dL_put_17 : decode cL_put 17 = .ok (.iconst 1, 1) := by decide +kernel
theorem dL_put_18 : decode cL_put 18 = .ok (.ireturn, 1) := by decide +kernel
theorem dL_put_19 : decode cL_put 19 = .ok (.astore 5, 2) := by decide +kernel
theorem dL_put_21 : decode cL_put 21 = .ok (.iconst 2, 1) := by decide +kernel
theorem dL_put_22 : decode cL_put 22 = .ok (.ireturn, 1) := by decide +kernel
theorem dL_put_23 : decode cL_put 23 = .ok (.astore 5, 2) := by decide +kernel
theorem dL_put_25 : decode cL_put 25 = .ok (.iconst 3, 1) := by decide +kernel
theorem dL_put_26 : decode cL_put 26 = .ok (.ireturn, 1) := by decide +kernel
theorem dL_put_27 : decode cL_put 27 = .ok (.iconst 0, 1) := by decide +kernel
theorem dL_put_28 : decode cL_put 28 = .ok (.ireturn, 1) := by decide +kernel
theorem dL_get_0 : decode cL_get 0 = .ok (.aload_n 3, 1) := by decide +kernel
theorem dL_get_1 : decode cL_get 1 = .ok (.iconst 0, 1) := by decide +kernel
theorem dL_get_2 : decode cL_get 2 = .ok (.aload_n 0, 1) := by decide +kernel
theorem dL_get_3 : decode cL_get 3 = .ok (.iload_n 1, 1) := by decide +kernel
theorem dL_get_4 : decode cL_get 4 = .ok (.iload_n 2, 1) := by decide +kernel
theorem dL_get_5 : decode cL_get 5 = .ok (.invokevirtual 25, 3) := by decide +kernel
theorem dL_get_8 : decode cL_get 8 = .ok (.i2l, 1) := by decide +kernel
theorem dL_get_9 : decode cL_get 9 = .ok (.lastore, 1) := by decide +kernel
theorem dL_get_10 : decode cL_get 10 = .ok (.goto 11, 3) := by decide +kernel
theorem dL_get_13 : decode cL_get 13 = .ok (.astore 4, 2) := by decide +kernel
theorem dL_get_15 : decode cL_get 15 = .ok (.iconst 1, 1) := by decide +kernel
theorem dL_get_16 : decode cL_get 16 = .ok (.ireturn, 1) := by decide +kernel
theorem dL_get_17 : decode cL_get 17 = .ok (.astore 4, 2) := by decide +kernel
theorem dL_get_19 : decode cL_get 19 = .ok (.iconst 2, 1) := by decide +kernel
theorem dL_get_20 : decode cL_get 20 = .ok (.ireturn, 1) := by decide +kernel
theorem dL_get_21 : decode cL_get 21 = .ok (.iconst 0, 1) := by decide +kernel
theorem dL_get_22 : decode cL_get 22 = .ok (.ireturn, 1) := by decide +kernel
theorem dL_save_0 : decode cL_save 0 = .ok (.aload_n 1, 1) := by decide +kernel
theorem dL_save_1 : decode cL_save 1 = .ok (.iconst 0, 1) := by decide +kernel
theorem dL_save_2 : decode cL_save 2 = .ok (.aload_n 0, 1) := by decide +kernel
theorem dL_save_3 : decode cL_save 3 = .ok (.invokevirtual 29, 3) := by decide +kernel
theorem dL_save_6 : decode cL_save 6 = .ok (.i2l, 1) := by decide +kernel
theorem dL_save_7 : decode cL_save 7 = .ok (.lastore, 1) := by decide +kernel
theorem dL_save_8 : decode cL_save 8 = .ok (.goto 6, 3) := by decide +kernel
theorem dL_save_11 : decode cL_save 11 = .ok (.astore_n 2, 1) := by decide +kernel
theorem dL_save_12 : decode cL_save 12 = .ok (.iconst 1, 1) := by decide +kernel
theorem dL_save_13 : decode cL_save 13 = .ok (.ireturn, 1) := by decide +kernel
theorem dL_save_14 : decode cL_save 14 = .ok (.iconst 0, 1) := by decide +kernel
theorem dL_save_15 : decode cL_save 15 = .ok (.ireturn, 1) := by decide +kernel
theorem dL_state_0 : decode cL_state 0 = .ok (.aload_n 3, 1) := by decide +kernel
theorem dL_state_1 : decode cL_state 1 = .ok (.iconst 0, 1) := by decide +kernel
theorem dL_state_2 : decode cL_state 2 = .ok (.aload_n 0, 1) := by decide +kernel
theorem dL_state_3 : decode cL_state 3 = .ok (.iload_n 1, 1) := by decide +kernel
theorem dL_state_4 : decode cL_state 4 = .ok (.iload_n 2, 1) := by decide +kernel
theorem dL_state_5 : decode cL_state 5 = .ok (.invokevirtual 33, 3) := by decide +kernel
theorem dL_state_8 : decode cL_state 8 = .ok (.i2l, 1) := by decide +kernel
theorem dL_state_9 : decode cL_state 9 = .ok (.lastore, 1) := by decide +kernel
theorem dL_state_10 : decode cL_state 10 = .ok (.goto 11, 3) := by decide +kernel
theorem dL_state_13 : decode cL_state 13 = .ok (.astore 4, 2) := by decide +kernel
theorem dL_state_15 : decode cL_state 15 = .ok (.iconst 1, 1) := by decide +kernel
theorem dL_state_16 : decode cL_state 16 = .ok (.ireturn, 1) := by decide +kernel
theorem dL_state_17 : decode cL_state 17 = .ok (.astore 4, 2) := by decide +kernel
theorem dL_state_19 : decode cL_state 19 = .ok (.iconst 2, 1) := by decide +kernel
theorem dL_state_20 : decode cL_state 20 = .ok (.ireturn, 1) := by decide +kernel
theorem dL_state_21 : decode cL_state 21 = .ok (.iconst 0, 1) := by decide +kernel
theorem dL_state_22 : decode cL_state 22 = .ok (.ireturn, 1) := by decide +kernel
theorem dL_stateOf_0 : decode cL_stateOf 0 = .ok (.aload_n 2, 1) := by decide +kernel
theorem dL_stateOf_1 : decode cL_stateOf 1 = .ok (.iconst 0, 1) := by decide +kernel
theorem dL_stateOf_2 : decode cL_stateOf 2 = .ok (.aload_n 0, 1) := by decide +kernel
theorem dL_stateOf_3 : decode cL_stateOf 3 = .ok (.iload_n 1, 1) := by decide +kernel
theorem dL_stateOf_4 : decode cL_stateOf 4 = .ok (.invokevirtual 36, 3) := by decide +kernel
theorem dL_stateOf_7 : decode cL_stateOf 7 = .ok (.i2l, 1) := by decide +kernel
theorem dL_stateOf_8 : decode cL_stateOf 8 = .ok (.lastore, 1) := by decide +kernel
theorem dL_stateOf_9 : decode cL_stateOf 9 = .ok (.goto 6, 3) := by decide +kernel
theorem dL_stateOf_12 : decode cL_stateOf 12 = .ok (.astore_n 3, 1) := by decide +kernel
theorem dL_stateOf_13 : decode cL_stateOf 13 = .ok (.iconst 1, 1) := by decide +kernel
theorem dL_stateOf_14 : decode cL_stateOf 14 = .ok (.ireturn, 1) := by decide +kernel
theorem dL_stateOf_15 : decode cL_stateOf 15 = .ok (.iconst 0, 1) := by decide +kernel
theorem dL_stateOf_16 : decode cL_stateOf 16 = .ok (.ireturn, 1) := by decide +kernel
theorem dL_push_0 : decode cL_push 0 = .ok (.aload_n 1, 1) := by decide +kernel
theorem dL_push_1 : decode cL_push 1 = .ok (.iconst 0, 1) := by decide +kernel
theorem dL_push_2 : decode cL_push 2 = .ok (.aload_n 0, 1) := by decide +kernel
theorem dL_push_3 : decode cL_push 3 = .ok (.invokevirtual 40, 3) := by decide +kernel
theorem dL_push_6 : decode cL_push 6 = .ok (.i2l, 1) := by decide +kernel
theorem dL_push_7 : decode cL_push 7 = .ok (.lastore, 1) := by decide +kernel
theorem dL_push_8 : decode cL_push 8 = .ok (.goto 6, 3) := by decide +kernel
theorem dL_push_11 : decode cL_push 11 = .ok (.astore_n 2, 1) := by decide +kernel
theorem dL_push_12 : decode cL_push 12 = .ok (.iconst 1, 1) := by decide +kernel
theorem dL_push_13 : decode cL_push 13 = .ok (.ireturn, 1) := by decide +kernel
theorem dL_push_14 : decode cL_push 14 = .ok (.iconst 0, 1) := by decide +kernel
theorem dL_push_15 : decode cL_push 15 = .ok (.ireturn, 1) := by decide +kernel
theorem dL_bytes_0 : decode cL_bytes 0 = .ok (.aload 4, 2) := by decide +kernel
theorem dL_bytes_2 : decode cL_bytes 2 = .ok (.iconst 0, 1) := by decide +kernel
theorem dL_bytes_3 : decode cL_bytes 3 = .ok (.aload_n 0, 1) := by decide +kernel
theorem dL_bytes_4 : decode cL_bytes 4 = .ok (.iload_n 1, 1) := by decide +kernel
theorem dL_bytes_5 : decode cL_bytes 5 = .ok (.iload_n 2, 1) := by decide +kernel
theorem dL_bytes_6 : decode cL_bytes 6 = .ok (.iload_n 3, 1) := by decide +kernel
theorem dL_bytes_7 : decode cL_bytes 7 = .ok (.invokevirtual 43, 3) := by decide +kernel
theorem dL_bytes_10 : decode cL_bytes 10 = .ok (.i2l, 1) := by decide +kernel
theorem dL_bytes_11 : decode cL_bytes 11 = .ok (.lastore, 1) := by decide +kernel
theorem dL_bytes_12 : decode cL_bytes 12 = .ok (.goto 11, 3) := by decide +kernel
theorem dL_bytes_15 : decode cL_bytes 15 = .ok (.astore 5, 2) := by decide +kernel
theorem dL_bytes_17 : decode cL_bytes 17 = .ok (.iconst 1, 1) := by decide +kernel
theorem dL_bytes_18 : decode cL_bytes 18 = .ok (.ireturn, 1) := by decide +kernel
theorem dL_bytes_19 : decode cL_bytes 19 = .ok (.astore 5, 2) := by decide +kernel
theorem dL_bytes_21 : decode cL_bytes 21 = .ok (.iconst 2, 1) := by decide +kernel
theorem dL_bytes_22 : decode cL_bytes 22 = .ok (.ireturn, 1) := by decide +kernel
theorem dL_bytes_23 : decode cL_bytes 23 = .ok (.iconst 0, 1) := by decide +kernel
theorem dL_bytes_24 : decode cL_bytes 24 = .ok (.ireturn, 1) := by decide +kernel
theorem dL_old_0 : decode cL_old 0 = .ok (.aload_n 2, 1) := by decide +kernel
theorem dL_old_1 : decode cL_old 1 = .ok (.iconst 0, 1) := by decide +kernel
theorem dL_old_2 : decode cL_old 2 = .ok (.aload_n 0, 1) := by decide +kernel
theorem dL_old_3 : decode cL_old 3 = .ok (.iload_n 1, 1) := by decide +kernel
theorem dL_old_4 : decode cL_old 4 = .ok (.invokevirtual 46, 3) := by decide +kernel
theorem dL_old_7 : decode cL_old 7 = .ok (.i2l, 1) := by decide +kernel
theorem dL_old_8 : decode cL_old 8 = .ok (.lastore, 1) := by decide +kernel
theorem dL_old_9 : decode cL_old 9 = .ok (.goto 6, 3) := by decide +kernel
theorem dL_old_12 : decode cL_old 12 = .ok (.astore_n 3, 1) := by decide +kernel
theorem dL_old_13 : decode cL_old 13 = .ok (.iconst 1, 1) := by decide +kernel
theorem dL_old_14 : decode cL_old 14 = .ok (.ireturn, 1) := by decide +kernel
theorem dL_old_15 : decode cL_old 15 = .ok (.iconst 0, 1) := by decide +kernel
theorem dL_old_16 : decode cL_old 16 = .ok (.ireturn, 1) := by decide +kernel
theorem dL_law_0 : decode cL_law 0 = .ok (.new 8, 3) := by decide +kernel
theorem dL_law_3 : decode cL_law 3 = .ok (.dup, 1) := by decide +kernel
theorem dL_law_4 : decode cL_law 4 = .ok (.invokespecial 49, 3) := by decide +kernel
theorem dL_law_7 : decode cL_law 7 = .ok (.astore_n 1, 1) := by decide +kernel
theorem dL_law_8 : decode cL_law 8 = .ok (.new 50, 3) := by decide +kernel
theorem dL_law_11 : decode cL_law 11 = .ok (.dup, 1) := by decide +kernel
theorem dL_law_12 : decode cL_law 12 = .ok (.invokespecial 52, 3) := by decide +kernel
theorem dL_law_15 : decode cL_law 15 = .ok (.astore_n 2, 1) := by decide +kernel
theorem dL_law_16 : decode cL_law 16 = .ok (.iconst 1, 1) := by decide +kernel
theorem dL_law_17 : decode cL_law 17 = .ok (.newarray .long, 2) := by decide +kernel
theorem dL_law_19 : decode cL_law 19 = .ok (.astore_n 3, 1) := by decide +kernel
theorem dL_law_20 : decode cL_law 20 = .ok (.iconst 0, 1) := by decide +kernel
theorem dL_law_21 : decode cL_law 21 = .ok (.istore 4, 2) := by decide +kernel
theorem dL_law_23 : decode cL_law 23 = .ok (.iload 4, 2) := by decide +kernel
theorem dL_law_25 : decode cL_law 25 = .ok (.aload_n 0, 1) := by decide +kernel
theorem dL_law_26 : decode cL_law 26 = .ok (.arraylength, 1) := by decide +kernel
theorem dL_law_27 : decode cL_law 27 = .ok (.iconst 4, 1) := by decide +kernel
theorem dL_law_28 : decode cL_law 28 = .ok (.isub, 1) := by decide +kernel
theorem dL_law_29 : decode cL_law 29 = .ok (.if_icmp .gt 713, 3) := by decide +kernel
theorem dL_law_32 : decode cL_law 32 = .ok (.aload_n 0, 1) := by decide +kernel
theorem dL_law_33 : decode cL_law 33 = .ok (.iload 4, 2) := by decide +kernel
theorem dL_law_35 : decode cL_law 35 = .ok (.iaload, 1) := by decide +kernel
theorem dL_law_36 : decode cL_law 36 = .ok (.bipush 15, 2) := by decide +kernel
theorem dL_law_38 : decode cL_law 38 = .ok (.iand, 1) := by decide +kernel
theorem dL_law_39 : decode cL_law 39 = .ok (.tableswitch 697 0 12 #[65, 137, 217, 285, 329, 354, 422, 478, 522, 535, 615, 628, 684], 65) := by decide +kernel
theorem dL_law_104 : decode cL_law 104 = .ok (.aload_n 1, 1) := by decide +kernel
theorem dL_law_105 : decode cL_law 105 = .ok (.aload_n 0, 1) := by decide +kernel
theorem dL_law_106 : decode cL_law 106 = .ok (.iload 4, 2) := by decide +kernel
theorem dL_law_108 : decode cL_law 108 = .ok (.iconst 1, 1) := by decide +kernel
theorem dL_law_109 : decode cL_law 109 = .ok (.iadd, 1) := by decide +kernel
theorem dL_law_110 : decode cL_law 110 = .ok (.iaload, 1) := by decide +kernel
theorem dL_law_111 : decode cL_law 111 = .ok (.ifCond .eq 7, 3) := by decide +kernel
theorem dL_law_114 : decode cL_law 114 = .ok (.iconst 1, 1) := by decide +kernel
theorem dL_law_115 : decode cL_law 115 = .ok (.goto 4, 3) := by decide +kernel
theorem dL_law_118 : decode cL_law 118 = .ok (.iconst 0, 1) := by decide +kernel
theorem dL_law_119 : decode cL_law 119 = .ok (.aload_n 3, 1) := by decide +kernel
theorem dL_law_120 : decode cL_law 120 = .ok (.invokestatic 53, 3) := by decide +kernel
theorem dL_law_123 : decode cL_law 123 = .ok (.istore 5, 2) := by decide +kernel
theorem dL_law_125 : decode cL_law 125 = .ok (.aload_n 2, 1) := by decide +kernel
theorem dL_law_126 : decode cL_law 126 = .ok (.aload_n 0, 1) := by decide +kernel
theorem dL_law_127 : decode cL_law 127 = .ok (.iload 4, 2) := by decide +kernel
theorem dL_law_129 : decode cL_law 129 = .ok (.iconst 1, 1) := by decide +kernel
theorem dL_law_130 : decode cL_law 130 = .ok (.iadd, 1) := by decide +kernel
theorem dL_law_131 : decode cL_law 131 = .ok (.iaload, 1) := by decide +kernel
theorem dL_law_132 : decode cL_law 132 = .ok (.ifCond .eq 7, 3) := by decide +kernel
theorem dL_law_135 : decode cL_law 135 = .ok (.iconst 1, 1) := by decide +kernel
theorem dL_law_136 : decode cL_law 136 = .ok (.goto 4, 3) := by decide +kernel
theorem dL_law_139 : decode cL_law 139 = .ok (.iconst 0, 1) := by decide +kernel
theorem dL_law_140 : decode cL_law 140 = .ok (.invokevirtual 58, 3) := by decide +kernel
theorem dL_law_143 : decode cL_law 143 = .ok (.istore 6, 2) := by decide +kernel
theorem dL_law_145 : decode cL_law 145 = .ok (.aload_n 2, 1) := by decide +kernel
theorem dL_law_146 : decode cL_law 146 = .ok (.invokevirtual 59, 3) := by decide +kernel
theorem dL_law_149 : decode cL_law 149 = .ok (.iload 5, 2) := by decide +kernel
theorem dL_law_151 : decode cL_law 151 = .ok (.if_icmp .eq 5, 3) := by decide +kernel
theorem dL_law_154 : decode cL_law 154 = .ok (.iconst 0, 1) := by decide +kernel
theorem dL_law_155 : decode cL_law 155 = .ok (.ireturn, 1) := by decide +kernel
theorem dL_law_156 : decode cL_law 156 = .ok (.iload 5, 2) := by decide +kernel
theorem dL_law_158 : decode cL_law 158 = .ok (.ifCond .ne 15, 3) := by decide +kernel
theorem dL_law_161 : decode cL_law 161 = .ok (.aload_n 3, 1) := by decide +kernel
theorem dL_law_162 : decode cL_law 162 = .ok (.iconst 0, 1) := by decide +kernel
theorem dL_law_163 : decode cL_law 163 = .ok (.laload, 1) := by decide +kernel
theorem dL_law_164 : decode cL_law 164 = .ok (.iload 6, 2) := by decide +kernel
theorem dL_law_166 : decode cL_law 166 = .ok (.i2l, 1) := by decide +kernel
theorem dL_law_167 : decode cL_law 167 = .ok (.lcmp, 1) := by decide +kernel
theorem dL_law_168 : decode cL_law 168 = .ok (.ifCond .eq 5, 3) := by decide +kernel
theorem dL_law_171 : decode cL_law 171 = .ok (.iconst 0, 1) := by decide +kernel
theorem dL_law_172 : decode cL_law 172 = .ok (.ireturn, 1) := by decide +kernel
theorem dL_law_173 : decode cL_law 173 = .ok (.goto 563, 3) := by decide +kernel
theorem dL_law_176 : decode cL_law 176 = .ok (.aload_n 1, 1) := by decide +kernel
theorem dL_law_177 : decode cL_law 177 = .ok (.aload_n 0, 1) := by decide +kernel
theorem dL_law_178 : decode cL_law 178 = .ok (.iload 4, 2) := by decide +kernel
theorem dL_law_180 : decode cL_law 180 = .ok (.iconst 1, 1) := by decide +kernel
theorem dL_law_181 : decode cL_law 181 = .ok (.iadd, 1) := by decide +kernel
theorem dL_law_182 : decode cL_law 182 = .ok (.iaload, 1) := by decide +kernel
theorem dL_law_183 : decode cL_law 183 = .ok (.aload_n 0, 1) := by decide +kernel
theorem dL_law_184 : decode cL_law 184 = .ok (.iload 4, 2) := by decide +kernel
theorem dL_law_186 : decode cL_law 186 = .ok (.iconst 2, 1) := by decide +kernel
theorem dL_law_187 : decode cL_law 187 = .ok (.iadd, 1) := by decide +kernel
theorem dL_law_188 : decode cL_law 188 = .ok (.iaload, 1) := by decide +kernel
theorem dL_law_189 : decode cL_law 189 = .ok (.aload_n 0, 1) := by decide +kernel
theorem dL_law_190 : decode cL_law 190 = .ok (.iload 4, 2) := by decide +kernel
theorem dL_law_192 : decode cL_law 192 = .ok (.iconst 3, 1) := by decide +kernel
theorem dL_law_193 : decode cL_law 193 = .ok (.iadd, 1) := by decide +kernel
theorem dL_law_194 : decode cL_law 194 = .ok (.iaload, 1) := by decide +kernel
theorem dL_law_195 : decode cL_law 195 = .ok (.aload_n 3, 1) := by decide +kernel
theorem dL_law_196 : decode cL_law 196 = .ok (.invokestatic 62, 3) := by decide +kernel
theorem dL_law_199 : decode cL_law 199 = .ok (.istore 5, 2) := by decide +kernel
theorem dL_law_201 : decode cL_law 201 = .ok (.aload_n 2, 1) := by decide +kernel
theorem dL_law_202 : decode cL_law 202 = .ok (.aload_n 0, 1) := by decide +kernel
theorem dL_law_203 : decode cL_law 203 = .ok (.iload 4, 2) := by decide +kernel
theorem dL_law_205 : decode cL_law 205 = .ok (.iconst 1, 1) := by decide +kernel
theorem dL_law_206 : decode cL_law 206 = .ok (.iadd, 1) := by decide +kernel
theorem dL_law_207 : decode cL_law 207 = .ok (.iaload, 1) := by decide +kernel
theorem dL_law_208 : decode cL_law 208 = .ok (.aload_n 0, 1) := by decide +kernel
theorem dL_law_209 : decode cL_law 209 = .ok (.iload 4, 2) := by decide +kernel
theorem dL_law_211 : decode cL_law 211 = .ok (.iconst 2, 1) := by decide +kernel
theorem dL_law_212 : decode cL_law 212 = .ok (.iadd, 1) := by decide +kernel
theorem dL_law_213 : decode cL_law 213 = .ok (.iaload, 1) := by decide +kernel
theorem dL_law_214 : decode cL_law 214 = .ok (.aload_n 0, 1) := by decide +kernel
theorem dL_law_215 : decode cL_law 215 = .ok (.iload 4, 2) := by decide +kernel
theorem dL_law_217 : decode cL_law 217 = .ok (.iconst 3, 1) := by decide +kernel
theorem dL_law_218 : decode cL_law 218 = .ok (.iadd, 1) := by decide +kernel
theorem dL_law_219 : decode cL_law 219 = .ok (.iaload, 1) := by decide +kernel
theorem dL_law_220 : decode cL_law 220 = .ok (.invokevirtual 65, 3) := by decide +kernel
theorem dL_law_223 : decode cL_law 223 = .ok (.istore 6, 2) := by decide +kernel
theorem dL_law_225 : decode cL_law 225 = .ok (.aload_n 2, 1) := by decide +kernel
theorem dL_law_226 : decode cL_law 226 = .ok (.invokevirtual 59, 3) := by decide +kernel
theorem dL_law_229 : decode cL_law 229 = .ok (.iload 5, 2) := by decide +kernel
theorem dL_law_231 : decode cL_law 231 = .ok (.if_icmp .eq 5, 3) := by decide +kernel
theorem dL_law_234 : decode cL_law 234 = .ok (.iconst 0, 1) := by decide +kernel
theorem dL_law_235 : decode cL_law 235 = .ok (.ireturn, 1) := by decide +kernel
theorem dL_law_236 : decode cL_law 236 = .ok (.iload 5, 2) := by decide +kernel
theorem dL_law_238 : decode cL_law 238 = .ok (.ifCond .ne 15, 3) := by decide +kernel
theorem dL_law_241 : decode cL_law 241 = .ok (.aload_n 3, 1) := by decide +kernel
theorem dL_law_242 : decode cL_law 242 = .ok (.iconst 0, 1) := by decide +kernel
theorem dL_law_243 : decode cL_law 243 = .ok (.laload, 1) := by decide +kernel
theorem dL_law_244 : decode cL_law 244 = .ok (.iload 6, 2) := by decide +kernel
theorem dL_law_246 : decode cL_law 246 = .ok (.i2l, 1) := by decide +kernel
theorem dL_law_247 : decode cL_law 247 = .ok (.lcmp, 1) := by decide +kernel
theorem dL_law_248 : decode cL_law 248 = .ok (.ifCond .eq 5, 3) := by decide +kernel
theorem dL_law_251 : decode cL_law 251 = .ok (.iconst 0, 1) := by decide +kernel
theorem dL_law_252 : decode cL_law 252 = .ok (.ireturn, 1) := by decide +kernel
theorem dL_law_253 : decode cL_law 253 = .ok (.goto 483, 3) := by decide +kernel
theorem dL_law_256 : decode cL_law 256 = .ok (.aload_n 1, 1) := by decide +kernel
theorem dL_law_257 : decode cL_law 257 = .ok (.aload_n 0, 1) := by decide +kernel
theorem dL_law_258 : decode cL_law 258 = .ok (.iload 4, 2) := by decide +kernel
theorem dL_law_260 : decode cL_law 260 = .ok (.iconst 1, 1) := by decide +kernel
theorem dL_law_261 : decode cL_law 261 = .ok (.iadd, 1) := by decide +kernel
theorem dL_law_262 : decode cL_law 262 = .ok (.iaload, 1) := by decide +kernel
theorem dL_law_263 : decode cL_law 263 = .ok (.aload_n 0, 1) := by decide +kernel
theorem dL_law_264 : decode cL_law 264 = .ok (.iload 4, 2) := by decide +kernel
theorem dL_law_266 : decode cL_law 266 = .ok (.iconst 2, 1) := by decide +kernel
theorem dL_law_267 : decode cL_law 267 = .ok (.iadd, 1) := by decide +kernel
theorem dL_law_268 : decode cL_law 268 = .ok (.iaload, 1) := by decide +kernel
theorem dL_law_269 : decode cL_law 269 = .ok (.aload_n 3, 1) := by decide +kernel
theorem dL_law_270 : decode cL_law 270 = .ok (.invokestatic 66, 3) := by decide +kernel
theorem dL_law_273 : decode cL_law 273 = .ok (.istore 5, 2) := by decide +kernel
theorem dL_law_275 : decode cL_law 275 = .ok (.aload_n 2, 1) := by decide +kernel
theorem dL_law_276 : decode cL_law 276 = .ok (.aload_n 0, 1) := by decide +kernel
theorem dL_law_277 : decode cL_law 277 = .ok (.iload 4, 2) := by decide +kernel
theorem dL_law_279 : decode cL_law 279 = .ok (.iconst 1, 1) := by decide +kernel
theorem dL_law_280 : decode cL_law 280 = .ok (.iadd, 1) := by decide +kernel
theorem dL_law_281 : decode cL_law 281 = .ok (.iaload, 1) := by decide +kernel
theorem dL_law_282 : decode cL_law 282 = .ok (.aload_n 0, 1) := by decide +kernel
theorem dL_law_283 : decode cL_law 283 = .ok (.iload 4, 2) := by decide +kernel
theorem dL_law_285 : decode cL_law 285 = .ok (.iconst 2, 1) := by decide +kernel
theorem dL_law_286 : decode cL_law 286 = .ok (.iadd, 1) := by decide +kernel
theorem dL_law_287 : decode cL_law 287 = .ok (.iaload, 1) := by decide +kernel
theorem dL_law_288 : decode cL_law 288 = .ok (.invokevirtual 69, 3) := by decide +kernel
theorem dL_law_291 : decode cL_law 291 = .ok (.istore 6, 2) := by decide +kernel
theorem dL_law_293 : decode cL_law 293 = .ok (.aload_n 2, 1) := by decide +kernel
theorem dL_law_294 : decode cL_law 294 = .ok (.invokevirtual 59, 3) := by decide +kernel
theorem dL_law_297 : decode cL_law 297 = .ok (.iload 5, 2) := by decide +kernel
theorem dL_law_299 : decode cL_law 299 = .ok (.if_icmp .eq 5, 3) := by decide +kernel
theorem dL_law_302 : decode cL_law 302 = .ok (.iconst 0, 1) := by decide +kernel
theorem dL_law_303 : decode cL_law 303 = .ok (.ireturn, 1) := by decide +kernel
theorem dL_law_304 : decode cL_law 304 = .ok (.iload 5, 2) := by decide +kernel
theorem dL_law_306 : decode cL_law 306 = .ok (.ifCond .ne 15, 3) := by decide +kernel
theorem dL_law_309 : decode cL_law 309 = .ok (.aload_n 3, 1) := by decide +kernel
theorem dL_law_310 : decode cL_law 310 = .ok (.iconst 0, 1) := by decide +kernel
theorem dL_law_311 : decode cL_law 311 = .ok (.laload, 1) := by decide +kernel
theorem dL_law_312 : decode cL_law 312 = .ok (.iload 6, 2) := by decide +kernel
theorem dL_law_314 : decode cL_law 314 = .ok (.i2l, 1) := by decide +kernel
theorem dL_law_315 : decode cL_law 315 = .ok (.lcmp, 1) := by decide +kernel
theorem dL_law_316 : decode cL_law 316 = .ok (.ifCond .eq 5, 3) := by decide +kernel
theorem dL_law_319 : decode cL_law 319 = .ok (.iconst 0, 1) := by decide +kernel
theorem dL_law_320 : decode cL_law 320 = .ok (.ireturn, 1) := by decide +kernel
theorem dL_law_321 : decode cL_law 321 = .ok (.goto 415, 3) := by decide +kernel
theorem dL_law_324 : decode cL_law 324 = .ok (.aload_n 1, 1) := by decide +kernel
theorem dL_law_325 : decode cL_law 325 = .ok (.aload_n 3, 1) := by decide +kernel
theorem dL_law_326 : decode cL_law 326 = .ok (.invokestatic 70, 3) := by decide +kernel
theorem dL_law_329 : decode cL_law 329 = .ok (.istore 5, 2) := by decide +kernel
theorem dL_law_331 : decode cL_law 331 = .ok (.aload_n 2, 1) := by decide +kernel
theorem dL_law_332 : decode cL_law 332 = .ok (.invokevirtual 73, 3) := by decide +kernel
theorem dL_law_335 : decode cL_law 335 = .ok (.istore 6, 2) := by decide +kernel
theorem dL_law_337 : decode cL_law 337 = .ok (.aload_n 2, 1) := by decide +kernel
theorem dL_law_338 : decode cL_law 338 = .ok (.invokevirtual 59, 3) := by decide +kernel
theorem dL_law_341 : decode cL_law 341 = .ok (.iload 5, 2) := by decide +kernel
theorem dL_law_343 : decode cL_law 343 = .ok (.if_icmp .eq 5, 3) := by decide +kernel
theorem dL_law_346 : decode cL_law 346 = .ok (.iconst 0, 1) := by decide +kernel
theorem dL_law_347 : decode cL_law 347 = .ok (.ireturn, 1) := by decide +kernel
theorem dL_law_348 : decode cL_law 348 = .ok (.iload 5, 2) := by decide +kernel
theorem dL_law_350 : decode cL_law 350 = .ok (.ifCond .ne 15, 3) := by decide +kernel
theorem dL_law_353 : decode cL_law 353 = .ok (.aload_n 3, 1) := by decide +kernel
theorem dL_law_354 : decode cL_law 354 = .ok (.iconst 0, 1) := by decide +kernel
theorem dL_law_355 : decode cL_law 355 = .ok (.laload, 1) := by decide +kernel
theorem dL_law_356 : decode cL_law 356 = .ok (.iload 6, 2) := by decide +kernel
theorem dL_law_358 : decode cL_law 358 = .ok (.i2l, 1) := by decide +kernel
theorem dL_law_359 : decode cL_law 359 = .ok (.lcmp, 1) := by decide +kernel
theorem dL_law_360 : decode cL_law 360 = .ok (.ifCond .eq 5, 3) := by decide +kernel
theorem dL_law_363 : decode cL_law 363 = .ok (.iconst 0, 1) := by decide +kernel
theorem dL_law_364 : decode cL_law 364 = .ok (.ireturn, 1) := by decide +kernel
theorem dL_law_365 : decode cL_law 365 = .ok (.goto 371, 3) := by decide +kernel
theorem dL_law_368 : decode cL_law 368 = .ok (.aload_n 1, 1) := by decide +kernel
theorem dL_law_369 : decode cL_law 369 = .ok (.aload_n 0, 1) := by decide +kernel
theorem dL_law_370 : decode cL_law 370 = .ok (.iload 4, 2) := by decide +kernel
theorem dL_law_372 : decode cL_law 372 = .ok (.iconst 1, 1) := by decide +kernel
theorem dL_law_373 : decode cL_law 373 = .ok (.iadd, 1) := by decide +kernel
theorem dL_law_374 : decode cL_law 374 = .ok (.iaload, 1) := by decide +kernel
theorem dL_law_375 : decode cL_law 375 = .ok (.invokevirtual 74, 3) := by decide +kernel
theorem dL_law_378 : decode cL_law 378 = .ok (.aload_n 2, 1) := by decide +kernel
theorem dL_law_379 : decode cL_law 379 = .ok (.aload_n 0, 1) := by decide +kernel
theorem dL_law_380 : decode cL_law 380 = .ok (.iload 4, 2) := by decide +kernel
theorem dL_law_382 : decode cL_law 382 = .ok (.iconst 1, 1) := by decide +kernel
theorem dL_law_383 : decode cL_law 383 = .ok (.iadd, 1) := by decide +kernel
theorem dL_law_384 : decode cL_law 384 = .ok (.iaload, 1) := by decide +kernel
theorem dL_law_385 : decode cL_law 385 = .ok (.invokevirtual 77, 3) := by decide +kernel
theorem dL_law_388 : decode cL_law 388 = .ok (.if_icmp .eq 348, 3) := by decide +kernel
theorem dL_law_391 : decode cL_law 391 = .ok (.iconst 0, 1) := by decide +kernel
theorem dL_law_392 : decode cL_law 392 = .ok (.ireturn, 1) := by decide +kernel
theorem dL_law_393 : decode cL_law 393 = .ok (.aload_n 1, 1) := by decide +kernel
theorem dL_law_394 : decode cL_law 394 = .ok (.aload_n 0, 1) := by decide +kernel
theorem dL_law_395 : decode cL_law 395 = .ok (.iload 4, 2) := by decide +kernel
theorem dL_law_397 : decode cL_law 397 = .ok (.iconst 1, 1) := by decide +kernel
theorem dL_law_398 : decode cL_law 398 = .ok (.iadd, 1) := by decide +kernel
theorem dL_law_399 : decode cL_law 399 = .ok (.iaload, 1) := by decide +kernel
theorem dL_law_400 : decode cL_law 400 = .ok (.aload_n 0, 1) := by decide +kernel
theorem dL_law_401 : decode cL_law 401 = .ok (.iload 4, 2) := by decide +kernel
theorem dL_law_403 : decode cL_law 403 = .ok (.iconst 2, 1) := by decide +kernel
theorem dL_law_404 : decode cL_law 404 = .ok (.iadd, 1) := by decide +kernel
theorem dL_law_405 : decode cL_law 405 = .ok (.iaload, 1) := by decide +kernel
theorem dL_law_406 : decode cL_law 406 = .ok (.aload_n 3, 1) := by decide +kernel
theorem dL_law_407 : decode cL_law 407 = .ok (.invokestatic 78, 3) := by decide +kernel
theorem dL_law_410 : decode cL_law 410 = .ok (.istore 5, 2) := by decide +kernel
theorem dL_law_412 : decode cL_law 412 = .ok (.aload_n 2, 1) := by decide +kernel
theorem dL_law_413 : decode cL_law 413 = .ok (.aload_n 0, 1) := by decide +kernel
theorem dL_law_414 : decode cL_law 414 = .ok (.iload 4, 2) := by decide +kernel
theorem dL_law_416 : decode cL_law 416 = .ok (.iconst 1, 1) := by decide +kernel
theorem dL_law_417 : decode cL_law 417 = .ok (.iadd, 1) := by decide +kernel
theorem dL_law_418 : decode cL_law 418 = .ok (.iaload, 1) := by decide +kernel
theorem dL_law_419 : decode cL_law 419 = .ok (.aload_n 0, 1) := by decide +kernel
theorem dL_law_420 : decode cL_law 420 = .ok (.iload 4, 2) := by decide +kernel
theorem dL_law_422 : decode cL_law 422 = .ok (.iconst 2, 1) := by decide +kernel
theorem dL_law_423 : decode cL_law 423 = .ok (.iadd, 1) := by decide +kernel
theorem dL_law_424 : decode cL_law 424 = .ok (.iaload, 1) := by decide +kernel
theorem dL_law_425 : decode cL_law 425 = .ok (.invokevirtual 80, 3) := by decide +kernel
theorem dL_law_428 : decode cL_law 428 = .ok (.istore 6, 2) := by decide +kernel
theorem dL_law_430 : decode cL_law 430 = .ok (.aload_n 2, 1) := by decide +kernel
theorem dL_law_431 : decode cL_law 431 = .ok (.invokevirtual 59, 3) := by decide +kernel
theorem dL_law_434 : decode cL_law 434 = .ok (.iload 5, 2) := by decide +kernel
theorem dL_law_436 : decode cL_law 436 = .ok (.if_icmp .eq 5, 3) := by decide +kernel
theorem dL_law_439 : decode cL_law 439 = .ok (.iconst 0, 1) := by decide +kernel
theorem dL_law_440 : decode cL_law 440 = .ok (.ireturn, 1) := by decide +kernel
theorem dL_law_441 : decode cL_law 441 = .ok (.iload 5, 2) := by decide +kernel
theorem dL_law_443 : decode cL_law 443 = .ok (.ifCond .ne 15, 3) := by decide +kernel
theorem dL_law_446 : decode cL_law 446 = .ok (.aload_n 3, 1) := by decide +kernel
theorem dL_law_447 : decode cL_law 447 = .ok (.iconst 0, 1) := by decide +kernel
theorem dL_law_448 : decode cL_law 448 = .ok (.laload, 1) := by decide +kernel
theorem dL_law_449 : decode cL_law 449 = .ok (.iload 6, 2) := by decide +kernel
theorem dL_law_451 : decode cL_law 451 = .ok (.i2l, 1) := by decide +kernel
theorem dL_law_452 : decode cL_law 452 = .ok (.lcmp, 1) := by decide +kernel
theorem dL_law_453 : decode cL_law 453 = .ok (.ifCond .eq 5, 3) := by decide +kernel
theorem dL_law_456 : decode cL_law 456 = .ok (.iconst 0, 1) := by decide +kernel
theorem dL_law_457 : decode cL_law 457 = .ok (.ireturn, 1) := by decide +kernel
theorem dL_law_458 : decode cL_law 458 = .ok (.goto 278, 3) := by decide +kernel
theorem dL_law_461 : decode cL_law 461 = .ok (.aload_n 1, 1) := by decide +kernel
theorem dL_law_462 : decode cL_law 462 = .ok (.aload_n 0, 1) := by decide +kernel
theorem dL_law_463 : decode cL_law 463 = .ok (.iload 4, 2) := by decide +kernel
theorem dL_law_465 : decode cL_law 465 = .ok (.iconst 1, 1) := by decide +kernel
theorem dL_law_466 : decode cL_law 466 = .ok (.iadd, 1) := by decide +kernel
theorem dL_law_467 : decode cL_law 467 = .ok (.iaload, 1) := by decide +kernel
theorem dL_law_468 : decode cL_law 468 = .ok (.aload_n 3, 1) := by decide +kernel
theorem dL_law_469 : decode cL_law 469 = .ok (.invokestatic 81, 3) := by decide +kernel
theorem dL_law_472 : decode cL_law 472 = .ok (.istore 5, 2) := by decide +kernel
theorem dL_law_474 : decode cL_law 474 = .ok (.aload_n 2, 1) := by decide +kernel
theorem dL_law_475 : decode cL_law 475 = .ok (.aload_n 0, 1) := by decide +kernel
theorem dL_law_476 : decode cL_law 476 = .ok (.iload 4, 2) := by decide +kernel
theorem dL_law_478 : decode cL_law 478 = .ok (.iconst 1, 1) := by decide +kernel
theorem dL_law_479 : decode cL_law 479 = .ok (.iadd, 1) := by decide +kernel
theorem dL_law_480 : decode cL_law 480 = .ok (.iaload, 1) := by decide +kernel
theorem dL_law_481 : decode cL_law 481 = .ok (.invokevirtual 84, 3) := by decide +kernel
theorem dL_law_484 : decode cL_law 484 = .ok (.istore 6, 2) := by decide +kernel
theorem dL_law_486 : decode cL_law 486 = .ok (.aload_n 2, 1) := by decide +kernel
theorem dL_law_487 : decode cL_law 487 = .ok (.invokevirtual 59, 3) := by decide +kernel
theorem dL_law_490 : decode cL_law 490 = .ok (.iload 5, 2) := by decide +kernel
theorem dL_law_492 : decode cL_law 492 = .ok (.if_icmp .eq 5, 3) := by decide +kernel
theorem dL_law_495 : decode cL_law 495 = .ok (.iconst 0, 1) := by decide +kernel
theorem dL_law_496 : decode cL_law 496 = .ok (.ireturn, 1) := by decide +kernel
theorem dL_law_497 : decode cL_law 497 = .ok (.iload 5, 2) := by decide +kernel
theorem dL_law_499 : decode cL_law 499 = .ok (.ifCond .ne 15, 3) := by decide +kernel
theorem dL_law_502 : decode cL_law 502 = .ok (.aload_n 3, 1) := by decide +kernel
theorem dL_law_503 : decode cL_law 503 = .ok (.iconst 0, 1) := by decide +kernel
theorem dL_law_504 : decode cL_law 504 = .ok (.laload, 1) := by decide +kernel
theorem dL_law_505 : decode cL_law 505 = .ok (.iload 6, 2) := by decide +kernel
theorem dL_law_507 : decode cL_law 507 = .ok (.i2l, 1) := by decide +kernel
theorem dL_law_508 : decode cL_law 508 = .ok (.lcmp, 1) := by decide +kernel
theorem dL_law_509 : decode cL_law 509 = .ok (.ifCond .eq 5, 3) := by decide +kernel
theorem dL_law_512 : decode cL_law 512 = .ok (.iconst 0, 1) := by decide +kernel
theorem dL_law_513 : decode cL_law 513 = .ok (.ireturn, 1) := by decide +kernel
theorem dL_law_514 : decode cL_law 514 = .ok (.goto 222, 3) := by decide +kernel
theorem dL_law_517 : decode cL_law 517 = .ok (.aload_n 1, 1) := by decide +kernel
theorem dL_law_518 : decode cL_law 518 = .ok (.aload_n 3, 1) := by decide +kernel
theorem dL_law_519 : decode cL_law 519 = .ok (.invokestatic 85, 3) := by decide +kernel
theorem dL_law_522 : decode cL_law 522 = .ok (.istore 5, 2) := by decide +kernel
theorem dL_law_524 : decode cL_law 524 = .ok (.aload_n 2, 1) := by decide +kernel
theorem dL_law_525 : decode cL_law 525 = .ok (.invokevirtual 87, 3) := by decide +kernel
theorem dL_law_528 : decode cL_law 528 = .ok (.istore 6, 2) := by decide +kernel
theorem dL_law_530 : decode cL_law 530 = .ok (.aload_n 2, 1) := by decide +kernel
theorem dL_law_531 : decode cL_law 531 = .ok (.invokevirtual 59, 3) := by decide +kernel
theorem dL_law_534 : decode cL_law 534 = .ok (.iload 5, 2) := by decide +kernel
theorem dL_law_536 : decode cL_law 536 = .ok (.if_icmp .eq 5, 3) := by decide +kernel
theorem dL_law_539 : decode cL_law 539 = .ok (.iconst 0, 1) := by decide +kernel
theorem dL_law_540 : decode cL_law 540 = .ok (.ireturn, 1) := by decide +kernel
theorem dL_law_541 : decode cL_law 541 = .ok (.iload 5, 2) := by decide +kernel
theorem dL_law_543 : decode cL_law 543 = .ok (.ifCond .ne 15, 3) := by decide +kernel
theorem dL_law_546 : decode cL_law 546 = .ok (.aload_n 3, 1) := by decide +kernel
theorem dL_law_547 : decode cL_law 547 = .ok (.iconst 0, 1) := by decide +kernel
theorem dL_law_548 : decode cL_law 548 = .ok (.laload, 1) := by decide +kernel
theorem dL_law_549 : decode cL_law 549 = .ok (.iload 6, 2) := by decide +kernel
theorem dL_law_551 : decode cL_law 551 = .ok (.i2l, 1) := by decide +kernel
theorem dL_law_552 : decode cL_law 552 = .ok (.lcmp, 1) := by decide +kernel
theorem dL_law_553 : decode cL_law 553 = .ok (.ifCond .eq 5, 3) := by decide +kernel
theorem dL_law_556 : decode cL_law 556 = .ok (.iconst 0, 1) := by decide +kernel
theorem dL_law_557 : decode cL_law 557 = .ok (.ireturn, 1) := by decide +kernel
theorem dL_law_558 : decode cL_law 558 = .ok (.goto 178, 3) := by decide +kernel
theorem dL_law_561 : decode cL_law 561 = .ok (.aload_n 1, 1) := by decide +kernel
theorem dL_law_562 : decode cL_law 562 = .ok (.invokevirtual 88, 3) := by decide +kernel
theorem dL_law_565 : decode cL_law 565 = .ok (.aload_n 2, 1) := by decide +kernel
theorem dL_law_566 : decode cL_law 566 = .ok (.invokevirtual 91, 3) := by decide +kernel
theorem dL_law_569 : decode cL_law 569 = .ok (.if_icmp .eq 167, 3) := by decide +kernel
theorem dL_law_572 : decode cL_law 572 = .ok (.iconst 0, 1) := by decide +kernel
theorem dL_law_573 : decode cL_law 573 = .ok (.ireturn, 1) := by decide +kernel
theorem dL_law_574 : decode cL_law 574 = .ok (.aload_n 1, 1) := by decide +kernel
theorem dL_law_575 : decode cL_law 575 = .ok (.aload_n 0, 1) := by decide +kernel
theorem dL_law_576 : decode cL_law 576 = .ok (.iload 4, 2) := by decide +kernel
theorem dL_law_578 : decode cL_law 578 = .ok (.iconst 1, 1) := by decide +kernel
theorem dL_law_579 : decode cL_law 579 = .ok (.iadd, 1) := by decide +kernel
theorem dL_law_580 : decode cL_law 580 = .ok (.iaload, 1) := by decide +kernel
theorem dL_law_581 : decode cL_law 581 = .ok (.aload_n 0, 1) := by decide +kernel
theorem dL_law_582 : decode cL_law 582 = .ok (.iload 4, 2) := by decide +kernel
theorem dL_law_584 : decode cL_law 584 = .ok (.iconst 2, 1) := by decide +kernel
theorem dL_law_585 : decode cL_law 585 = .ok (.iadd, 1) := by decide +kernel
theorem dL_law_586 : decode cL_law 586 = .ok (.iaload, 1) := by decide +kernel
theorem dL_law_587 : decode cL_law 587 = .ok (.aload_n 0, 1) := by decide +kernel
theorem dL_law_588 : decode cL_law 588 = .ok (.iload 4, 2) := by decide +kernel
theorem dL_law_590 : decode cL_law 590 = .ok (.iconst 3, 1) := by decide +kernel
theorem dL_law_591 : decode cL_law 591 = .ok (.iadd, 1) := by decide +kernel
theorem dL_law_592 : decode cL_law 592 = .ok (.iaload, 1) := by decide +kernel
theorem dL_law_593 : decode cL_law 593 = .ok (.aload_n 3, 1) := by decide +kernel
theorem dL_law_594 : decode cL_law 594 = .ok (.invokestatic 92, 3) := by decide +kernel
theorem dL_law_597 : decode cL_law 597 = .ok (.istore 5, 2) := by decide +kernel
theorem dL_law_599 : decode cL_law 599 = .ok (.aload_n 2, 1) := by decide +kernel
theorem dL_law_600 : decode cL_law 600 = .ok (.aload_n 0, 1) := by decide +kernel
theorem dL_law_601 : decode cL_law 601 = .ok (.iload 4, 2) := by decide +kernel
theorem dL_law_603 : decode cL_law 603 = .ok (.iconst 1, 1) := by decide +kernel
theorem dL_law_604 : decode cL_law 604 = .ok (.iadd, 1) := by decide +kernel
theorem dL_law_605 : decode cL_law 605 = .ok (.iaload, 1) := by decide +kernel
theorem dL_law_606 : decode cL_law 606 = .ok (.aload_n 0, 1) := by decide +kernel
theorem dL_law_607 : decode cL_law 607 = .ok (.iload 4, 2) := by decide +kernel
theorem dL_law_609 : decode cL_law 609 = .ok (.iconst 2, 1) := by decide +kernel
theorem dL_law_610 : decode cL_law 610 = .ok (.iadd, 1) := by decide +kernel
theorem dL_law_611 : decode cL_law 611 = .ok (.iaload, 1) := by decide +kernel
theorem dL_law_612 : decode cL_law 612 = .ok (.aload_n 0, 1) := by decide +kernel
theorem dL_law_613 : decode cL_law 613 = .ok (.iload 4, 2) := by decide +kernel
theorem dL_law_615 : decode cL_law 615 = .ok (.iconst 3, 1) := by decide +kernel
theorem dL_law_616 : decode cL_law 616 = .ok (.iadd, 1) := by decide +kernel
theorem dL_law_617 : decode cL_law 617 = .ok (.iaload, 1) := by decide +kernel
theorem dL_law_618 : decode cL_law 618 = .ok (.invokevirtual 94, 3) := by decide +kernel
theorem dL_law_621 : decode cL_law 621 = .ok (.istore 6, 2) := by decide +kernel
theorem dL_law_623 : decode cL_law 623 = .ok (.aload_n 2, 1) := by decide +kernel
theorem dL_law_624 : decode cL_law 624 = .ok (.invokevirtual 59, 3) := by decide +kernel
theorem dL_law_627 : decode cL_law 627 = .ok (.iload 5, 2) := by decide +kernel
theorem dL_law_629 : decode cL_law 629 = .ok (.if_icmp .eq 5, 3) := by decide +kernel
theorem dL_law_632 : decode cL_law 632 = .ok (.iconst 0, 1) := by decide +kernel
theorem dL_law_633 : decode cL_law 633 = .ok (.ireturn, 1) := by decide +kernel
theorem dL_law_634 : decode cL_law 634 = .ok (.iload 5, 2) := by decide +kernel
theorem dL_law_636 : decode cL_law 636 = .ok (.ifCond .ne 15, 3) := by decide +kernel
theorem dL_law_639 : decode cL_law 639 = .ok (.aload_n 3, 1) := by decide +kernel
theorem dL_law_640 : decode cL_law 640 = .ok (.iconst 0, 1) := by decide +kernel
theorem dL_law_641 : decode cL_law 641 = .ok (.laload, 1) := by decide +kernel
theorem dL_law_642 : decode cL_law 642 = .ok (.iload 6, 2) := by decide +kernel
theorem dL_law_644 : decode cL_law 644 = .ok (.i2l, 1) := by decide +kernel
theorem dL_law_645 : decode cL_law 645 = .ok (.lcmp, 1) := by decide +kernel
theorem dL_law_646 : decode cL_law 646 = .ok (.ifCond .eq 5, 3) := by decide +kernel
theorem dL_law_649 : decode cL_law 649 = .ok (.iconst 0, 1) := by decide +kernel
theorem dL_law_650 : decode cL_law 650 = .ok (.ireturn, 1) := by decide +kernel
theorem dL_law_651 : decode cL_law 651 = .ok (.goto 85, 3) := by decide +kernel
theorem dL_law_654 : decode cL_law 654 = .ok (.aload_n 1, 1) := by decide +kernel
theorem dL_law_655 : decode cL_law 655 = .ok (.invokevirtual 95, 3) := by decide +kernel
theorem dL_law_658 : decode cL_law 658 = .ok (.aload_n 2, 1) := by decide +kernel
theorem dL_law_659 : decode cL_law 659 = .ok (.invokevirtual 98, 3) := by decide +kernel
theorem dL_law_662 : decode cL_law 662 = .ok (.if_icmp .eq 74, 3) := by decide +kernel
theorem dL_law_665 : decode cL_law 665 = .ok (.iconst 0, 1) := by decide +kernel
theorem dL_law_666 : decode cL_law 666 = .ok (.ireturn, 1) := by decide +kernel
theorem dL_law_667 : decode cL_law 667 = .ok (.aload_n 1, 1) := by decide +kernel
theorem dL_law_668 : decode cL_law 668 = .ok (.aload_n 0, 1) := by decide +kernel
theorem dL_law_669 : decode cL_law 669 = .ok (.iload 4, 2) := by decide +kernel
theorem dL_law_671 : decode cL_law 671 = .ok (.iconst 1, 1) := by decide +kernel
theorem dL_law_672 : decode cL_law 672 = .ok (.iadd, 1) := by decide +kernel
theorem dL_law_673 : decode cL_law 673 = .ok (.iaload, 1) := by decide +kernel
theorem dL_law_674 : decode cL_law 674 = .ok (.aload_n 3, 1) := by decide +kernel
theorem dL_law_675 : decode cL_law 675 = .ok (.invokestatic 99, 3) := by decide +kernel
theorem dL_law_678 : decode cL_law 678 = .ok (.istore 5, 2) := by decide +kernel
theorem dL_law_680 : decode cL_law 680 = .ok (.aload_n 2, 1) := by decide +kernel
theorem dL_law_681 : decode cL_law 681 = .ok (.aload_n 0, 1) := by decide +kernel
theorem dL_law_682 : decode cL_law 682 = .ok (.iload 4, 2) := by decide +kernel
theorem dL_law_684 : decode cL_law 684 = .ok (.iconst 1, 1) := by decide +kernel
theorem dL_law_685 : decode cL_law 685 = .ok (.iadd, 1) := by decide +kernel
theorem dL_law_686 : decode cL_law 686 = .ok (.iaload, 1) := by decide +kernel
theorem dL_law_687 : decode cL_law 687 = .ok (.invokevirtual 101, 3) := by decide +kernel
theorem dL_law_690 : decode cL_law 690 = .ok (.istore 6, 2) := by decide +kernel
theorem dL_law_692 : decode cL_law 692 = .ok (.aload_n 2, 1) := by decide +kernel
theorem dL_law_693 : decode cL_law 693 = .ok (.invokevirtual 59, 3) := by decide +kernel
theorem dL_law_696 : decode cL_law 696 = .ok (.iload 5, 2) := by decide +kernel
theorem dL_law_698 : decode cL_law 698 = .ok (.if_icmp .eq 5, 3) := by decide +kernel
theorem dL_law_701 : decode cL_law 701 = .ok (.iconst 0, 1) := by decide +kernel
theorem dL_law_702 : decode cL_law 702 = .ok (.ireturn, 1) := by decide +kernel
theorem dL_law_703 : decode cL_law 703 = .ok (.iload 5, 2) := by decide +kernel
theorem dL_law_705 : decode cL_law 705 = .ok (.ifCond .ne 15, 3) := by decide +kernel
theorem dL_law_708 : decode cL_law 708 = .ok (.aload_n 3, 1) := by decide +kernel
theorem dL_law_709 : decode cL_law 709 = .ok (.iconst 0, 1) := by decide +kernel
theorem dL_law_710 : decode cL_law 710 = .ok (.laload, 1) := by decide +kernel
theorem dL_law_711 : decode cL_law 711 = .ok (.iload 6, 2) := by decide +kernel
theorem dL_law_713 : decode cL_law 713 = .ok (.i2l, 1) := by decide +kernel
theorem dL_law_714 : decode cL_law 714 = .ok (.lcmp, 1) := by decide +kernel
theorem dL_law_715 : decode cL_law 715 = .ok (.ifCond .eq 5, 3) := by decide +kernel
theorem dL_law_718 : decode cL_law 718 = .ok (.iconst 0, 1) := by decide +kernel
theorem dL_law_719 : decode cL_law 719 = .ok (.ireturn, 1) := by decide +kernel
theorem dL_law_720 : decode cL_law 720 = .ok (.goto 16, 3) := by decide +kernel
theorem dL_law_723 : decode cL_law 723 = .ok (.aload_n 1, 1) := by decide +kernel
theorem dL_law_724 : decode cL_law 724 = .ok (.invokevirtual 102, 3) := by decide +kernel
theorem dL_law_727 : decode cL_law 727 = .ok (.aload_n 2, 1) := by decide +kernel
theorem dL_law_728 : decode cL_law 728 = .ok (.invokevirtual 105, 3) := by decide +kernel
theorem dL_law_731 : decode cL_law 731 = .ok (.if_icmp .eq 5, 3) := by decide +kernel
theorem dL_law_734 : decode cL_law 734 = .ok (.iconst 0, 1) := by decide +kernel
theorem dL_law_735 : decode cL_law 735 = .ok (.ireturn, 1) := by decide +kernel
theorem dL_law_736 : decode cL_law 736 = .ok (.iinc 4 4, 3) := by decide +kernel
theorem dL_law_739 : decode cL_law 739 = .ok (.goto (-716), 3) := by decide +kernel
theorem dL_law_742 : decode cL_law 742 = .ok (.iconst 1, 1) := by decide +kernel
theorem dL_law_743 : decode cL_law 743 = .ok (.ireturn, 1) := by decide +kernel
/-- the words that every method of this claim is given: those of the tables that stay -/
def WL : List Cond := lw_tbl.filter goodWord
theorem WL_in {w : Cond} (h : w ∈ WL) : w ∈ lw_tbl := (List.mem_filter.mp h).1
theorem WL_good {w : Cond} (h : w ∈ WL) : goodWord w = true := (List.mem_filter.mp h).2
theorem WL_of {w : Cond} (i : Nat) (h : lw_tbl[i]? = some w) (g : goodWord w = true) : w ∈ WL := List.mem_filter.mpr ⟨List.mem_of_getElem? h, g⟩
theorem goodWL {c : Cond} (h : c ∈ WL) (d : Cond) : GoodIn (d :: WL) (c :: WL) := fun w hw => by
  rcases List.mem_cons.mp hw with rfl | hw
  · exact ⟨List.mem_cons_of_mem _ h, good_of_word (WL_good h)⟩
  · exact ⟨List.mem_cons_of_mem _ hw, good_of_word (WL_good hw)⟩
theorem cl_L_8 : (Jvm.Cond.classLink "SaveRestoreLaw" (8 : Nat) "SaveRestore") ∈ WL := WL_of 33 (by decide +kernel) (by decide +kernel)
theorem ml_L_49 : (Jvm.Cond.methodLink "SaveRestoreLaw" (49 : Nat) ({ cls := "SaveRestore", name := "<init>", desc := "()V" } : Jvm.MethodName)) ∈ WL := WL_of 35 (by decide +kernel) (by decide +kernel)
theorem ml_X3_1 : (Jvm.Cond.methodLink "SaveRestore" (1 : Nat) ({ cls := "java/lang/Object", name := "<init>", desc := "()V" } : Jvm.MethodName)) ∈ WL := WL_of 38 (by decide +kernel) (by decide +kernel)
theorem cl_X3_9 : (Jvm.Cond.classLink "SaveRestore" (9 : Nat) "SaveRestore$Thing") ∈ WL := WL_of 41 (by decide +kernel) (by decide +kernel)
theorem cl_X3_22 : (Jvm.Cond.classLink "SaveRestore" (22 : Nat) "SaveRestore$Save") ∈ WL := WL_of 43 (by decide +kernel) (by decide +kernel)
theorem cl_X3_41 : (Jvm.Cond.classLink "SaveRestore" (41 : Nat) "[[I") ∈ WL := WL_of 45 (by decide +kernel) (by decide +kernel)
theorem ml_X1_3 : (Jvm.Cond.methodLink "SaveRestore$Save" (3 : Nat) ({ cls := "java/lang/Object", name := "<init>", desc := "()V" } : Jvm.MethodName)) ∈ WL := WL_of 51 (by decide +kernel) (by decide +kernel)
theorem fl_X1_9 : (Jvm.Cond.fieldLink "SaveRestore$Save" (9 : Nat) "SaveRestore$Save" "number" "I") ∈ WL := WL_of 52 (by decide +kernel) (by decide +kernel)
theorem fl_X3_97 : (Jvm.Cond.fieldLink "SaveRestore" (97 : Nat) "SaveRestore$Save" "number" "I") ∈ WL := WL_of 53 (by decide +kernel) (by decide +kernel)
theorem fl_X1_15 : (Jvm.Cond.fieldLink "SaveRestore$Save" (15 : Nat) "SaveRestore$Save" "firstNewerThing" "I") ∈ WL := WL_of 54 (by decide +kernel) (by decide +kernel)
theorem fl_X2_29 : (Jvm.Cond.fieldLink "SaveRestore$Thing" (29 : Nat) "SaveRestore$Save" "firstNewerThing" "I") ∈ WL := WL_of 55 (by decide +kernel) (by decide +kernel)
theorem fl_X3_98 : (Jvm.Cond.fieldLink "SaveRestore" (98 : Nat) "SaveRestore$Save" "firstNewerThing" "I") ∈ WL := WL_of 56 (by decide +kernel) (by decide +kernel)
theorem fl_X1_18 : (Jvm.Cond.fieldLink "SaveRestore$Save" (18 : Nat) "SaveRestore$Save" "pushedBefore" "I") ∈ WL := WL_of 57 (by decide +kernel) (by decide +kernel)
theorem fl_X3_101 : (Jvm.Cond.fieldLink "SaveRestore" (101 : Nat) "SaveRestore$Save" "pushedBefore" "I") ∈ WL := WL_of 58 (by decide +kernel) (by decide +kernel)
theorem fl_X1_21 : (Jvm.Cond.fieldLink "SaveRestore$Save" (21 : Nat) "SaveRestore$Save" "parameters" "[I") ∈ WL := WL_of 59 (by decide +kernel) (by decide +kernel)
theorem fl_X3_104 : (Jvm.Cond.fieldLink "SaveRestore" (104 : Nat) "SaveRestore$Save" "parameters" "[I") ∈ WL := WL_of 60 (by decide +kernel) (by decide +kernel)
theorem fl_X1_25 : (Jvm.Cond.fieldLink "SaveRestore$Save" (25 : Nat) "SaveRestore$Save" "rows" "LSaveRestore$Row;") ∈ WL := WL_of 61 (by decide +kernel) (by decide +kernel)
theorem fl_X3_172 : (Jvm.Cond.fieldLink "SaveRestore" (172 : Nat) "SaveRestore$Save" "rows" "LSaveRestore$Row;") ∈ WL := WL_of 62 (by decide +kernel) (by decide +kernel)
theorem fl_X1_29 : (Jvm.Cond.fieldLink "SaveRestore$Save" (29 : Nat) "SaveRestore$Save" "rowCount" "I") ∈ WL := WL_of 63 (by decide +kernel) (by decide +kernel)
theorem fl_X3_143 : (Jvm.Cond.fieldLink "SaveRestore" (143 : Nat) "SaveRestore$Save" "rowCount" "I") ∈ WL := WL_of 64 (by decide +kernel) (by decide +kernel)
theorem fl_X3_11 : (Jvm.Cond.fieldLink "SaveRestore" (11 : Nat) "SaveRestore" "things" "[LSaveRestore$Thing;") ∈ WL := WL_of 79 (by decide +kernel) (by decide +kernel)
theorem fl_X3_15 : (Jvm.Cond.fieldLink "SaveRestore" (15 : Nat) "SaveRestore" "thingCount" "I") ∈ WL := WL_of 80 (by decide +kernel) (by decide +kernel)
theorem fl_X3_19 : (Jvm.Cond.fieldLink "SaveRestore" (19 : Nat) "SaveRestore" "thingsMade" "I") ∈ WL := WL_of 81 (by decide +kernel) (by decide +kernel)
theorem fl_X3_24 : (Jvm.Cond.fieldLink "SaveRestore" (24 : Nat) "SaveRestore" "saves" "[LSaveRestore$Save;") ∈ WL := WL_of 82 (by decide +kernel) (by decide +kernel)
theorem fl_X3_28 : (Jvm.Cond.fieldLink "SaveRestore" (28 : Nat) "SaveRestore" "living" "I") ∈ WL := WL_of 83 (by decide +kernel) (by decide +kernel)
theorem fl_X3_31 : (Jvm.Cond.fieldLink "SaveRestore" (31 : Nat) "SaveRestore" "savesMade" "I") ∈ WL := WL_of 84 (by decide +kernel) (by decide +kernel)
theorem fl_X3_34 : (Jvm.Cond.fieldLink "SaveRestore" (34 : Nat) "SaveRestore" "mostLiving" "I") ∈ WL := WL_of 85 (by decide +kernel) (by decide +kernel)
theorem fl_X3_37 : (Jvm.Cond.fieldLink "SaveRestore" (37 : Nat) "SaveRestore" "parameters" "[I") ∈ WL := WL_of 86 (by decide +kernel) (by decide +kernel)
theorem fl_X3_43 : (Jvm.Cond.fieldLink "SaveRestore" (43 : Nat) "SaveRestore" "pushed" "[[I") ∈ WL := WL_of 87 (by decide +kernel) (by decide +kernel)
theorem fl_X3_46 : (Jvm.Cond.fieldLink "SaveRestore" (46 : Nat) "SaveRestore" "pushedCount" "I") ∈ WL := WL_of 88 (by decide +kernel) (by decide +kernel)
theorem ml_L_74 : (Jvm.Cond.methodLink "SaveRestoreLaw" (74 : Nat) ({ cls := "SaveRestore", name := "restore", desc := "(I)I" } : Jvm.MethodName)) ∈ WL := WL_of 110 (by decide +kernel) (by decide +kernel)
theorem ml_X3_117 : (Jvm.Cond.methodLink "SaveRestore" (117 : Nat) ({ cls := "SaveRestore", name := "placeOfLiving", desc := "(I)I" } : Jvm.MethodName)) ∈ WL := WL_of 114 (by decide +kernel) (by decide +kernel)
theorem ml_X3_121 : (Jvm.Cond.methodLink "SaveRestore" (121 : Nat) ({ cls := "SaveRestore", name := "keptRefersToNewer", desc := "(LSaveRestore$Save;)Z" } : Jvm.MethodName)) ∈ WL := WL_of 118 (by decide +kernel) (by decide +kernel)
theorem ml_X3_160 : (Jvm.Cond.methodLink "SaveRestore" (160 : Nat) ({ cls := "SaveRestore", name := "referredTo", desc := "(I)LSaveRestore$Thing;" } : Jvm.MethodName)) ∈ WL := WL_of 122 (by decide +kernel) (by decide +kernel)
theorem ml_X3_149 : (Jvm.Cond.methodLink "SaveRestore" (149 : Nat) ({ cls := "SaveRestore", name := "find", desc := "(I)LSaveRestore$Thing;" } : Jvm.MethodName)) ∈ WL := WL_of 126 (by decide +kernel) (by decide +kernel)
theorem ml_X3_157 : (Jvm.Cond.methodLink "SaveRestore" (157 : Nat) ({ cls := "java/lang/Math", name := "min", desc := "(II)I" } : Jvm.MethodName)) ∈ WL := WL_of 130 (by decide +kernel) (by decide +kernel)
theorem ml_X3_146 : (Jvm.Cond.methodLink "SaveRestore" (146 : Nat) ({ cls := "SaveRestore$Thing", name := "isNewerThan", desc := "(LSaveRestore$Save;)Z" } : Jvm.MethodName)) ∈ WL := WL_of 133 (by decide +kernel) (by decide +kernel)
theorem ml_X3_125 : (Jvm.Cond.methodLink "SaveRestore" (125 : Nat) ({ cls := "SaveRestore", name := "undoSince", desc := "(LSaveRestore$Save;)V" } : Jvm.MethodName)) ∈ WL := WL_of 137 (by decide +kernel) (by decide +kernel)
theorem ml_X3_179 : (Jvm.Cond.methodLink "SaveRestore" (179 : Nat) ({ cls := "SaveRestore$Row", name := "putBack", desc := "()V" } : Jvm.MethodName)) ∈ WL := WL_of 141 (by decide +kernel) (by decide +kernel)
theorem ml_X3_185 : (Jvm.Cond.methodLink "SaveRestore" (185 : Nat) ({ cls := "SaveRestore", name := "dropLocalsNewerThan", desc := "(LSaveRestore$Save;)V" } : Jvm.MethodName)) ∈ WL := WL_of 145 (by decide +kernel) (by decide +kernel)
theorem ml_X3_105 : (Jvm.Cond.methodLink "SaveRestore" (105 : Nat) ({ cls := "java/lang/System", name := "arraycopy", desc := "(Ljava/lang/Object;ILjava/lang/Object;II)V" } : Jvm.MethodName)) ∈ WL := WL_of 149 (by decide +kernel) (by decide +kernel)
theorem ml_L_88 : (Jvm.Cond.methodLink "SaveRestoreLaw" (88 : Nat) ({ cls := "SaveRestore", name := "pop", desc := "()I" } : Jvm.MethodName)) ∈ WL := WL_of 152 (by decide +kernel) (by decide +kernel)
theorem ml_X3_131 : (Jvm.Cond.methodLink "SaveRestore" (131 : Nat) ({ cls := "SaveRestore", name := "pushedSinceLatestSave", desc := "()I" } : Jvm.MethodName)) ∈ WL := WL_of 156 (by decide +kernel) (by decide +kernel)
theorem ml_L_95 : (Jvm.Cond.methodLink "SaveRestoreLaw" (95 : Nat) ({ cls := "SaveRestore", name := "used", desc := "()I" } : Jvm.MethodName)) ∈ WL := WL_of 160 (by decide +kernel) (by decide +kernel)
theorem ml_L_102 : (Jvm.Cond.methodLink "SaveRestoreLaw" (102 : Nat) ({ cls := "SaveRestore", name := "deepest", desc := "()I" } : Jvm.MethodName)) ∈ WL := WL_of 164 (by decide +kernel) (by decide +kernel)
theorem ml_L_53 : (Jvm.Cond.methodLink "SaveRestoreLaw" (53 : Nat) ({ cls := "SaveRestoreLaw", name := "object", desc := "(LSaveRestore;Z[J)I" } : Jvm.MethodName)) ∈ WL := WL_of 168 (by decide +kernel) (by decide +kernel)
theorem cl_L_13 : (Jvm.Cond.classLink "SaveRestoreLaw" (13 : Nat) "java/lang/UnsupportedOperationException") ∈ WL := WL_of 171 (by decide +kernel) (by decide +kernel)
theorem ml_L_7 : (Jvm.Cond.methodLink "SaveRestoreLaw" (7 : Nat) ({ cls := "SaveRestore", name := "object", desc := "(Z)I" } : Jvm.MethodName)) ∈ WL := WL_of 172 (by decide +kernel) (by decide +kernel)
theorem cl_X3_50 : (Jvm.Cond.classLink "SaveRestore" (50 : Nat) "java/lang/UnsupportedOperationException") ∈ WL := WL_of 176 (by decide +kernel) (by decide +kernel)
theorem ml_X3_54 : (Jvm.Cond.methodLink "SaveRestore" (54 : Nat) ({ cls := "java/lang/UnsupportedOperationException", name := "<init>", desc := "(Ljava/lang/String;)V" } : Jvm.MethodName)) ∈ WL := WL_of 219 (by decide +kernel) (by decide +kernel)
theorem ml_X3_57 : (Jvm.Cond.methodLink "SaveRestore" (57 : Nat) ({ cls := "SaveRestore$Thing", name := "<init>", desc := "(IZ)V" } : Jvm.MethodName)) ∈ WL := WL_of 246 (by decide +kernel) (by decide +kernel)
theorem ml_X2_3 : (Jvm.Cond.methodLink "SaveRestore$Thing" (3 : Nat) ({ cls := "java/lang/Object", name := "<init>", desc := "()V" } : Jvm.MethodName)) ∈ WL := WL_of 249 (by decide +kernel) (by decide +kernel)
theorem fl_X2_21 : (Jvm.Cond.fieldLink "SaveRestore$Thing" (21 : Nat) "SaveRestore$Thing" "number" "I") ∈ WL := WL_of 250 (by decide +kernel) (by decide +kernel)
theorem fl_X3_60 : (Jvm.Cond.fieldLink "SaveRestore" (60 : Nat) "SaveRestore$Thing" "number" "I") ∈ WL := WL_of 251 (by decide +kernel) (by decide +kernel)
theorem fl_X2_25 : (Jvm.Cond.fieldLink "SaveRestore$Thing" (25 : Nat) "SaveRestore$Thing" "global" "Z") ∈ WL := WL_of 252 (by decide +kernel) (by decide +kernel)
theorem fl_X3_75 : (Jvm.Cond.fieldLink "SaveRestore" (75 : Nat) "SaveRestore$Thing" "global" "Z") ∈ WL := WL_of 253 (by decide +kernel) (by decide +kernel)
theorem fl_X2_9 : (Jvm.Cond.fieldLink "SaveRestore$Thing" (9 : Nat) "SaveRestore$Thing" "cells" "[I") ∈ WL := WL_of 254 (by decide +kernel) (by decide +kernel)
theorem fl_X0_17 : (Jvm.Cond.fieldLink "SaveRestore$Row" (17 : Nat) "SaveRestore$Thing" "cells" "[I") ∈ WL := WL_of 255 (by decide +kernel) (by decide +kernel)
theorem fl_X3_92 : (Jvm.Cond.fieldLink "SaveRestore" (92 : Nat) "SaveRestore$Thing" "cells" "[I") ∈ WL := WL_of 256 (by decide +kernel) (by decide +kernel)
theorem fl_X2_15 : (Jvm.Cond.fieldLink "SaveRestore$Thing" (15 : Nat) "SaveRestore$Thing" "bytes" "[I") ∈ WL := WL_of 257 (by decide +kernel) (by decide +kernel)
theorem fl_X3_140 : (Jvm.Cond.fieldLink "SaveRestore" (140 : Nat) "SaveRestore$Thing" "bytes" "[I") ∈ WL := WL_of 258 (by decide +kernel) (by decide +kernel)
theorem fl_X2_18 : (Jvm.Cond.fieldLink "SaveRestore$Thing" (18 : Nat) "SaveRestore$Thing" "rowOwners" "[I") ∈ WL := WL_of 259 (by decide +kernel) (by decide +kernel)
theorem fl_X0_26 : (Jvm.Cond.fieldLink "SaveRestore$Row" (26 : Nat) "SaveRestore$Thing" "rowOwners" "[I") ∈ WL := WL_of 260 (by decide +kernel) (by decide +kernel)
theorem fl_X3_167 : (Jvm.Cond.fieldLink "SaveRestore" (167 : Nat) "SaveRestore$Thing" "rowOwners" "[I") ∈ WL := WL_of 261 (by decide +kernel) (by decide +kernel)
theorem ml_L_62 : (Jvm.Cond.methodLink "SaveRestoreLaw" (62 : Nat) ({ cls := "SaveRestoreLaw", name := "put", desc := "(LSaveRestore;III[J)I" } : Jvm.MethodName)) ∈ WL := WL_of 273 (by decide +kernel) (by decide +kernel)
theorem cl_L_19 : (Jvm.Cond.classLink "SaveRestoreLaw" (19 : Nat) "java/util/NoSuchElementException") ∈ WL := WL_of 276 (by decide +kernel) (by decide +kernel)
theorem cl_L_21 : (Jvm.Cond.classLink "SaveRestoreLaw" (21 : Nat) "java/lang/IndexOutOfBoundsException") ∈ WL := WL_of 277 (by decide +kernel) (by decide +kernel)
theorem cl_L_23 : (Jvm.Cond.classLink "SaveRestoreLaw" (23 : Nat) "java/lang/IllegalStateException") ∈ WL := WL_of 278 (by decide +kernel) (by decide +kernel)
theorem ml_L_15 : (Jvm.Cond.methodLink "SaveRestoreLaw" (15 : Nat) ({ cls := "SaveRestore", name := "put", desc := "(III)I" } : Jvm.MethodName)) ∈ WL := WL_of 279 (by decide +kernel) (by decide +kernel)
theorem ml_X3_63 : (Jvm.Cond.methodLink "SaveRestore" (63 : Nat) ({ cls := "SaveRestore", name := "existing", desc := "(I)LSaveRestore$Thing;" } : Jvm.MethodName)) ∈ WL := WL_of 283 (by decide +kernel) (by decide +kernel)
theorem cl_X3_152 : (Jvm.Cond.classLink "SaveRestore" (152 : Nat) "java/util/NoSuchElementException") ∈ WL := WL_of 287 (by decide +kernel) (by decide +kernel)
theorem ml_X3_156 : (Jvm.Cond.methodLink "SaveRestore" (156 : Nat) ({ cls := "java/util/NoSuchElementException", name := "<init>", desc := "(Ljava/lang/String;)V" } : Jvm.MethodName)) ∈ WL := WL_of 297 (by decide +kernel) (by decide +kernel)
theorem ml_X3_67 : (Jvm.Cond.methodLink "SaveRestore" (67 : Nat) ({ cls := "SaveRestore", name := "checkValue", desc := "(I)V" } : Jvm.MethodName)) ∈ WL := WL_of 303 (by decide +kernel) (by decide +kernel)
theorem ml_X3_71 : (Jvm.Cond.methodLink "SaveRestore" (71 : Nat) ({ cls := "SaveRestore", name := "checkIndex", desc := "(II)V" } : Jvm.MethodName)) ∈ WL := WL_of 308 (by decide +kernel) (by decide +kernel)
theorem cl_X3_135 : (Jvm.Cond.classLink "SaveRestore" (135 : Nat) "java/lang/IndexOutOfBoundsException") ∈ WL := WL_of 311 (by decide +kernel) (by decide +kernel)
theorem ml_X3_139 : (Jvm.Cond.methodLink "SaveRestore" (139 : Nat) ({ cls := "java/lang/IndexOutOfBoundsException", name := "<init>", desc := "(Ljava/lang/String;)V" } : Jvm.MethodName)) ∈ WL := WL_of 321 (by decide +kernel) (by decide +kernel)
theorem ml_X3_79 : (Jvm.Cond.methodLink "SaveRestore" (79 : Nat) ({ cls := "SaveRestore", name := "refersToLocal", desc := "(I)Z" } : Jvm.MethodName)) ∈ WL := WL_of 327 (by decide +kernel) (by decide +kernel)
theorem cl_X3_83 : (Jvm.Cond.classLink "SaveRestore" (83 : Nat) "java/lang/IllegalStateException") ∈ WL := WL_of 331 (by decide +kernel) (by decide +kernel)
theorem ml_X3_87 : (Jvm.Cond.methodLink "SaveRestore" (87 : Nat) ({ cls := "java/lang/IllegalStateException", name := "<init>", desc := "(Ljava/lang/String;)V" } : Jvm.MethodName)) ∈ WL := WL_of 341 (by decide +kernel) (by decide +kernel)
theorem ml_X3_88 : (Jvm.Cond.methodLink "SaveRestore" (88 : Nat) ({ cls := "SaveRestore", name := "keepRow", desc := "(LSaveRestore$Thing;I)V" } : Jvm.MethodName)) ∈ WL := WL_of 347 (by decide +kernel) (by decide +kernel)
theorem cl_X3_170 : (Jvm.Cond.classLink "SaveRestore" (170 : Nat) "SaveRestore$Row") ∈ WL := WL_of 351 (by decide +kernel) (by decide +kernel)
theorem ml_X3_176 : (Jvm.Cond.methodLink "SaveRestore" (176 : Nat) ({ cls := "SaveRestore$Row", name := "<init>", desc := "(LSaveRestore$Thing;ILSaveRestore$Row;)V" } : Jvm.MethodName)) ∈ WL := WL_of 353 (by decide +kernel) (by decide +kernel)
theorem ml_X0_1 : (Jvm.Cond.methodLink "SaveRestore$Row" (1 : Nat) ({ cls := "java/lang/Object", name := "<init>", desc := "()V" } : Jvm.MethodName)) ∈ WL := WL_of 356 (by decide +kernel) (by decide +kernel)
theorem fl_X0_7 : (Jvm.Cond.fieldLink "SaveRestore$Row" (7 : Nat) "SaveRestore$Row" "thing" "LSaveRestore$Thing;") ∈ WL := WL_of 357 (by decide +kernel) (by decide +kernel)
theorem fl_X0_13 : (Jvm.Cond.fieldLink "SaveRestore$Row" (13 : Nat) "SaveRestore$Row" "cell" "I") ∈ WL := WL_of 358 (by decide +kernel) (by decide +kernel)
theorem fl_X0_23 : (Jvm.Cond.fieldLink "SaveRestore$Row" (23 : Nat) "SaveRestore$Row" "value" "I") ∈ WL := WL_of 359 (by decide +kernel) (by decide +kernel)
theorem fl_X0_29 : (Jvm.Cond.fieldLink "SaveRestore$Row" (29 : Nat) "SaveRestore$Row" "ownerBefore" "I") ∈ WL := WL_of 360 (by decide +kernel) (by decide +kernel)
theorem fl_X0_32 : (Jvm.Cond.fieldLink "SaveRestore$Row" (32 : Nat) "SaveRestore$Row" "next" "LSaveRestore$Row;") ∈ WL := WL_of 361 (by decide +kernel) (by decide +kernel)
theorem fl_X3_182 : (Jvm.Cond.fieldLink "SaveRestore" (182 : Nat) "SaveRestore$Row" "next" "LSaveRestore$Row;") ∈ WL := WL_of 362 (by decide +kernel) (by decide +kernel)
theorem ml_L_66 : (Jvm.Cond.methodLink "SaveRestoreLaw" (66 : Nat) ({ cls := "SaveRestoreLaw", name := "get", desc := "(LSaveRestore;II[J)I" } : Jvm.MethodName)) ∈ WL := WL_of 374 (by decide +kernel) (by decide +kernel)
theorem ml_L_25 : (Jvm.Cond.methodLink "SaveRestoreLaw" (25 : Nat) ({ cls := "SaveRestore", name := "get", desc := "(II)I" } : Jvm.MethodName)) ∈ WL := WL_of 377 (by decide +kernel) (by decide +kernel)
theorem ml_L_70 : (Jvm.Cond.methodLink "SaveRestoreLaw" (70 : Nat) ({ cls := "SaveRestoreLaw", name := "save", desc := "(LSaveRestore;[J)I" } : Jvm.MethodName)) ∈ WL := WL_of 381 (by decide +kernel) (by decide +kernel)
theorem ml_L_29 : (Jvm.Cond.methodLink "SaveRestoreLaw" (29 : Nat) ({ cls := "SaveRestore", name := "save", desc := "()I" } : Jvm.MethodName)) ∈ WL := WL_of 384 (by decide +kernel) (by decide +kernel)
theorem ml_X3_111 : (Jvm.Cond.methodLink "SaveRestore" (111 : Nat) ({ cls := "java/lang/Math", name := "max", desc := "(II)I" } : Jvm.MethodName)) ∈ WL := WL_of 389 (by decide +kernel) (by decide +kernel)
theorem ml_L_78 : (Jvm.Cond.methodLink "SaveRestoreLaw" (78 : Nat) ({ cls := "SaveRestoreLaw", name := "state", desc := "(LSaveRestore;II[J)I" } : Jvm.MethodName)) ∈ WL := WL_of 392 (by decide +kernel) (by decide +kernel)
theorem ml_L_33 : (Jvm.Cond.methodLink "SaveRestoreLaw" (33 : Nat) ({ cls := "SaveRestore", name := "state", desc := "(II)I" } : Jvm.MethodName)) ∈ WL := WL_of 395 (by decide +kernel) (by decide +kernel)
theorem ml_L_81 : (Jvm.Cond.methodLink "SaveRestoreLaw" (81 : Nat) ({ cls := "SaveRestoreLaw", name := "stateOf", desc := "(LSaveRestore;I[J)I" } : Jvm.MethodName)) ∈ WL := WL_of 399 (by decide +kernel) (by decide +kernel)
theorem ml_L_36 : (Jvm.Cond.methodLink "SaveRestoreLaw" (36 : Nat) ({ cls := "SaveRestore", name := "stateOf", desc := "(I)I" } : Jvm.MethodName)) ∈ WL := WL_of 402 (by decide +kernel) (by decide +kernel)
theorem ml_L_85 : (Jvm.Cond.methodLink "SaveRestoreLaw" (85 : Nat) ({ cls := "SaveRestoreLaw", name := "push", desc := "(LSaveRestore;[J)I" } : Jvm.MethodName)) ∈ WL := WL_of 406 (by decide +kernel) (by decide +kernel)
theorem ml_L_40 : (Jvm.Cond.methodLink "SaveRestoreLaw" (40 : Nat) ({ cls := "SaveRestore", name := "push", desc := "()I" } : Jvm.MethodName)) ∈ WL := WL_of 409 (by decide +kernel) (by decide +kernel)
theorem ml_L_92 : (Jvm.Cond.methodLink "SaveRestoreLaw" (92 : Nat) ({ cls := "SaveRestoreLaw", name := "bytes", desc := "(LSaveRestore;III[J)I" } : Jvm.MethodName)) ∈ WL := WL_of 414 (by decide +kernel) (by decide +kernel)
theorem ml_L_43 : (Jvm.Cond.methodLink "SaveRestoreLaw" (43 : Nat) ({ cls := "SaveRestore", name := "bytes", desc := "(III)I" } : Jvm.MethodName)) ∈ WL := WL_of 417 (by decide +kernel) (by decide +kernel)
theorem ml_L_99 : (Jvm.Cond.methodLink "SaveRestoreLaw" (99 : Nat) ({ cls := "SaveRestoreLaw", name := "old", desc := "(LSaveRestore;I[J)I" } : Jvm.MethodName)) ∈ WL := WL_of 422 (by decide +kernel) (by decide +kernel)
theorem ml_L_46 : (Jvm.Cond.methodLink "SaveRestoreLaw" (46 : Nat) ({ cls := "SaveRestore", name := "old", desc := "(I)I" } : Jvm.MethodName)) ∈ WL := WL_of 425 (by decide +kernel) (by decide +kernel)
theorem cl_L_50 : (Jvm.Cond.classLink "SaveRestoreLaw" (50 : Nat) "SaveRestoreModel") ∈ WL := WL_of 429 (by decide +kernel) (by decide +kernel)
theorem ml_L_52 : (Jvm.Cond.methodLink "SaveRestoreLaw" (52 : Nat) ({ cls := "SaveRestoreModel", name := "<init>", desc := "()V" } : Jvm.MethodName)) ∈ WL := WL_of 431 (by decide +kernel) (by decide +kernel)
theorem ml_X4_1 : (Jvm.Cond.methodLink "SaveRestoreModel" (1 : Nat) ({ cls := "java/lang/Object", name := "<init>", desc := "()V" } : Jvm.MethodName)) ∈ WL := WL_of 434 (by decide +kernel) (by decide +kernel)
theorem fl_X4_50 : (Jvm.Cond.fieldLink "SaveRestoreModel" (50 : Nat) "SaveRestoreModel" "thrown" "I") ∈ WL := WL_of 435 (by decide +kernel) (by decide +kernel)
theorem fl_X4_54 : (Jvm.Cond.fieldLink "SaveRestoreModel" (54 : Nat) "SaveRestoreModel" "made" "I") ∈ WL := WL_of 436 (by decide +kernel) (by decide +kernel)
theorem fl_X4_61 : (Jvm.Cond.fieldLink "SaveRestoreModel" (61 : Nat) "SaveRestoreModel" "alive" "I") ∈ WL := WL_of 437 (by decide +kernel) (by decide +kernel)
theorem fl_X4_7 : (Jvm.Cond.fieldLink "SaveRestoreModel" (7 : Nat) "SaveRestoreModel" "isThere" "[Z") ∈ WL := WL_of 438 (by decide +kernel) (by decide +kernel)
theorem fl_X4_13 : (Jvm.Cond.fieldLink "SaveRestoreModel" (13 : Nat) "SaveRestoreModel" "global" "[Z") ∈ WL := WL_of 439 (by decide +kernel) (by decide +kernel)
theorem fl_X4_16 : (Jvm.Cond.fieldLink "SaveRestoreModel" (16 : Nat) "SaveRestoreModel" "cells" "[I") ∈ WL := WL_of 440 (by decide +kernel) (by decide +kernel)
theorem fl_X4_20 : (Jvm.Cond.fieldLink "SaveRestoreModel" (20 : Nat) "SaveRestoreModel" "octets" "[I") ∈ WL := WL_of 441 (by decide +kernel) (by decide +kernel)
theorem fl_X4_23 : (Jvm.Cond.fieldLink "SaveRestoreModel" (23 : Nat) "SaveRestoreModel" "parameters" "[I") ∈ WL := WL_of 442 (by decide +kernel) (by decide +kernel)
theorem fl_X4_64 : (Jvm.Cond.fieldLink "SaveRestoreModel" (64 : Nat) "SaveRestoreModel" "saves" "I") ∈ WL := WL_of 443 (by decide +kernel) (by decide +kernel)
theorem fl_X4_80 : (Jvm.Cond.fieldLink "SaveRestoreModel" (80 : Nat) "SaveRestoreModel" "lastSave" "I") ∈ WL := WL_of 444 (by decide +kernel) (by decide +kernel)
theorem fl_X4_86 : (Jvm.Cond.fieldLink "SaveRestoreModel" (86 : Nat) "SaveRestoreModel" "deepest" "I") ∈ WL := WL_of 445 (by decide +kernel) (by decide +kernel)
theorem fl_X4_26 : (Jvm.Cond.fieldLink "SaveRestoreModel" (26 : Nat) "SaveRestoreModel" "number" "[I") ∈ WL := WL_of 446 (by decide +kernel) (by decide +kernel)
theorem fl_X4_29 : (Jvm.Cond.fieldLink "SaveRestoreModel" (29 : Nat) "SaveRestoreModel" "first" "[I") ∈ WL := WL_of 447 (by decide +kernel) (by decide +kernel)
theorem fl_X4_32 : (Jvm.Cond.fieldLink "SaveRestoreModel" (32 : Nat) "SaveRestoreModel" "rowsBefore" "[I") ∈ WL := WL_of 448 (by decide +kernel) (by decide +kernel)
theorem fl_X4_35 : (Jvm.Cond.fieldLink "SaveRestoreModel" (35 : Nat) "SaveRestoreModel" "statesBefore" "[I") ∈ WL := WL_of 449 (by decide +kernel) (by decide +kernel)
theorem fl_X4_38 : (Jvm.Cond.fieldLink "SaveRestoreModel" (38 : Nat) "SaveRestoreModel" "had" "[I") ∈ WL := WL_of 450 (by decide +kernel) (by decide +kernel)
theorem fl_X4_67 : (Jvm.Cond.fieldLink "SaveRestoreModel" (67 : Nat) "SaveRestoreModel" "rows" "I") ∈ WL := WL_of 451 (by decide +kernel) (by decide +kernel)
theorem fl_X4_41 : (Jvm.Cond.fieldLink "SaveRestoreModel" (41 : Nat) "SaveRestoreModel" "place" "[I") ∈ WL := WL_of 452 (by decide +kernel) (by decide +kernel)
theorem fl_X4_44 : (Jvm.Cond.fieldLink "SaveRestoreModel" (44 : Nat) "SaveRestoreModel" "value" "[I") ∈ WL := WL_of 453 (by decide +kernel) (by decide +kernel)
theorem fl_X4_83 : (Jvm.Cond.fieldLink "SaveRestoreModel" (83 : Nat) "SaveRestoreModel" "states" "I") ∈ WL := WL_of 454 (by decide +kernel) (by decide +kernel)
theorem fl_X4_47 : (Jvm.Cond.fieldLink "SaveRestoreModel" (47 : Nat) "SaveRestoreModel" "pushed" "[I") ∈ WL := WL_of 455 (by decide +kernel) (by decide +kernel)
theorem ml_L_59 : (Jvm.Cond.methodLink "SaveRestoreLaw" (59 : Nat) ({ cls := "SaveRestoreModel", name := "thrown", desc := "()I" } : Jvm.MethodName)) ∈ WL := WL_of 500 (by decide +kernel) (by decide +kernel)
theorem ml_L_58 : (Jvm.Cond.methodLink "SaveRestoreLaw" (58 : Nat) ({ cls := "SaveRestoreModel", name := "object", desc := "(Z)I" } : Jvm.MethodName)) ∈ WL := WL_of 504 (by decide +kernel) (by decide +kernel)
theorem ml_L_65 : (Jvm.Cond.methodLink "SaveRestoreLaw" (65 : Nat) ({ cls := "SaveRestoreModel", name := "put", desc := "(III)I" } : Jvm.MethodName)) ∈ WL := WL_of 508 (by decide +kernel) (by decide +kernel)
theorem ml_X4_57 : (Jvm.Cond.methodLink "SaveRestoreModel" (57 : Nat) ({ cls := "SaveRestoreModel", name := "isObject", desc := "(I)Z" } : Jvm.MethodName)) ∈ WL := WL_of 512 (by decide +kernel) (by decide +kernel)
theorem ml_X4_70 : (Jvm.Cond.methodLink "SaveRestoreModel" (70 : Nat) ({ cls := "SaveRestoreModel", name := "isValue", desc := "(I)Z" } : Jvm.MethodName)) ∈ WL := WL_of 516 (by decide +kernel) (by decide +kernel)
theorem ml_X4_73 : (Jvm.Cond.methodLink "SaveRestoreModel" (73 : Nat) ({ cls := "SaveRestoreModel", name := "isEight", desc := "(I)Z" } : Jvm.MethodName)) ∈ WL := WL_of 520 (by decide +kernel) (by decide +kernel)
theorem ml_X4_76 : (Jvm.Cond.methodLink "SaveRestoreModel" (76 : Nat) ({ cls := "SaveRestoreModel", name := "keep", desc := "(I)V" } : Jvm.MethodName)) ∈ WL := WL_of 523 (by decide +kernel) (by decide +kernel)
theorem ml_L_69 : (Jvm.Cond.methodLink "SaveRestoreLaw" (69 : Nat) ({ cls := "SaveRestoreModel", name := "get", desc := "(II)I" } : Jvm.MethodName)) ∈ WL := WL_of 527 (by decide +kernel) (by decide +kernel)
theorem ml_L_73 : (Jvm.Cond.methodLink "SaveRestoreLaw" (73 : Nat) ({ cls := "SaveRestoreModel", name := "save", desc := "()I" } : Jvm.MethodName)) ∈ WL := WL_of 531 (by decide +kernel) (by decide +kernel)
theorem ml_L_77 : (Jvm.Cond.methodLink "SaveRestoreLaw" (77 : Nat) ({ cls := "SaveRestoreModel", name := "restore", desc := "(I)I" } : Jvm.MethodName)) ∈ WL := WL_of 535 (by decide +kernel) (by decide +kernel)
theorem ml_X4_89 : (Jvm.Cond.methodLink "SaveRestoreModel" (89 : Nat) ({ cls := "SaveRestoreModel", name := "isLive", desc := "(I)Z" } : Jvm.MethodName)) ∈ WL := WL_of 539 (by decide +kernel) (by decide +kernel)
theorem ml_X4_92 : (Jvm.Cond.methodLink "SaveRestoreModel" (92 : Nat) ({ cls := "SaveRestoreModel", name := "isNewer", desc := "(II)Z" } : Jvm.MethodName)) ∈ WL := WL_of 543 (by decide +kernel) (by decide +kernel)
theorem ml_L_80 : (Jvm.Cond.methodLink "SaveRestoreLaw" (80 : Nat) ({ cls := "SaveRestoreModel", name := "state", desc := "(II)I" } : Jvm.MethodName)) ∈ WL := WL_of 547 (by decide +kernel) (by decide +kernel)
theorem ml_X4_96 : (Jvm.Cond.methodLink "SaveRestoreModel" (96 : Nat) ({ cls := "SaveRestoreModel", name := "isParameter", desc := "(I)Z" } : Jvm.MethodName)) ∈ WL := WL_of 551 (by decide +kernel) (by decide +kernel)
theorem ml_L_84 : (Jvm.Cond.methodLink "SaveRestoreLaw" (84 : Nat) ({ cls := "SaveRestoreModel", name := "stateOf", desc := "(I)I" } : Jvm.MethodName)) ∈ WL := WL_of 554 (by decide +kernel) (by decide +kernel)
theorem ml_L_87 : (Jvm.Cond.methodLink "SaveRestoreLaw" (87 : Nat) ({ cls := "SaveRestoreModel", name := "push", desc := "()I" } : Jvm.MethodName)) ∈ WL := WL_of 558 (by decide +kernel) (by decide +kernel)
theorem ml_X4_99 : (Jvm.Cond.methodLink "SaveRestoreModel" (99 : Nat) ({ cls := "SaveRestoreModel", name := "ownStates", desc := "()I" } : Jvm.MethodName)) ∈ WL := WL_of 562 (by decide +kernel) (by decide +kernel)
theorem ml_L_91 : (Jvm.Cond.methodLink "SaveRestoreLaw" (91 : Nat) ({ cls := "SaveRestoreModel", name := "pop", desc := "()I" } : Jvm.MethodName)) ∈ WL := WL_of 566 (by decide +kernel) (by decide +kernel)
theorem ml_L_94 : (Jvm.Cond.methodLink "SaveRestoreLaw" (94 : Nat) ({ cls := "SaveRestoreModel", name := "bytes", desc := "(III)I" } : Jvm.MethodName)) ∈ WL := WL_of 570 (by decide +kernel) (by decide +kernel)
theorem ml_L_98 : (Jvm.Cond.methodLink "SaveRestoreLaw" (98 : Nat) ({ cls := "SaveRestoreModel", name := "used", desc := "()I" } : Jvm.MethodName)) ∈ WL := WL_of 574 (by decide +kernel) (by decide +kernel)
theorem ml_L_101 : (Jvm.Cond.methodLink "SaveRestoreLaw" (101 : Nat) ({ cls := "SaveRestoreModel", name := "old", desc := "(I)I" } : Jvm.MethodName)) ∈ WL := WL_of 578 (by decide +kernel) (by decide +kernel)
theorem ml_L_105 : (Jvm.Cond.methodLink "SaveRestoreLaw" (105 : Nat) ({ cls := "SaveRestoreModel", name := "deepest", desc := "()I" } : Jvm.MethodName)) ∈ WL := WL_of 582 (by decide +kernel) (by decide +kernel)
end
section
/-! MY OWN ROWS: the world as a partial map from addresses; a judgement VV that hides the heap; contracts CT, CM -/
abbrev clG : List vw_C := [(RX0, TX0, 5), (RX1, TX1, 6), (RX2, TX2, 5), (RX3, TX3, 10), (RX4, TX4, 21)]
abbrev Mem : Type := Nat → Option va_E
def mput (M : Mem) (a : Nat) (e : va_E) : Mem := fun b => if b = a then some e else M b
theorem mput_eq (M : Mem) (a : Nat) (e : va_E) : mput M a e a = some e := if_pos rfl
theorem mput_ne {M : Mem} {a b : Nat} {e : va_E} (h : b ≠ a) : mput M a e b = M b := if_neg h
def Ab (base : Nat) : Nat → Prop := fun q => base ≤ q
abbrev tysG (ct : Nat → ClassId) : List (ClassId × FieldType) := [(ct 0, .int), (ct 1, .boolean), (ct 2, .long), (ct 3, .object RX1), (ct 4, .object RX2), (ct 5, .array .int)]
/-- the heap holds the world M -/
def Wd (base : Nat) (D : va_G) (M : Mem) (H : Heap) : Prop := ∃ (L : List Nat) (f : Nat → va_E), (∀ a e, M a = some e → a ∈ L ∧ f a = e) ∧ va_P D clG (va_pl L f) H ∧ va_D (Ab base) (va_pl L f)
theorem pl_at {L : List Nat} {f : Nat → va_E} {a : Nat} {e : va_E} (h : a ∈ L ∧ f a = e) : ∃ k : Nat, (va_pl L f)[k]? = some (a, e) := by
  obtain ⟨k, hk⟩ := va_pl_get (X := []) (f := f) h.1
  obtain ⟨_, rfl⟩ := h
  exact ⟨k, hk⟩
theorem Wd.sub {base : Nat} {D : va_G} {M M' : Mem} {H : Heap} (h : Wd base D M H) (hs : ∀ a e, M' a = some e → M a = some e) : Wd base D M' H := by
  obtain ⟨L, f, h1, h2, h3⟩ := h
  exact ⟨L, f, fun a e q => h1 a e (hs a e q), h2, h3⟩
theorem Wd.lt {base : Nat} {D : va_G} {M : Mem} {H : Heap} (h : Wd base D M H) {a : Nat} {e : va_E} (hm : M a = some e) : a < H.size := by
  obtain ⟨L, f, h1, h2, h3⟩ := h
  exact va_pl_lt (X := []) h2 (h1 a e hm).1
theorem Wd.base {base : Nat} {D : va_G} {M : Mem} {H : Heap} (h : Wd base D M H) {a : Nat} {e : va_E} (hm : M a = some e) : base ≤ a := by
  obtain ⟨L, f, h1, h2, h3⟩ := h
  obtain ⟨k, hk⟩ := pl_at (h1 a e hm)
  exact h3.2 k _ hk
theorem Wd.set {base : Nat} {D : va_G} {M : Mem} {L : List Nat} {f : Nat → va_E} {H : Heap} {a k : Nat} {e0 e1 : va_E} (h1 : ∀ a e, M a = some e → a ∈ L ∧ f a = e) (hD : va_D (Ab base) (va_pl L f)) (hm : M a = some e0) (hk : (va_pl L f)[k]? = some (a, e0)) (hP1 : va_P D clG ((va_pl L f).set k (a, e1)) H) (hD1 : va_D (Ab base) ((va_pl L f).set k (a, e1))) : Wd base D (mput M a e1) H := by
  obtain ⟨hL, hf⟩ := h1 a e0 hm
  subst hf
  have e9 : (va_pl L f).set k (a, e1) = va_pl L (va_up f a e1) := va_pl_set (X := []) hD hL hk
  rw [e9] at hP1 hD1
  refine ⟨L, va_up f a e1, fun b e q => ?_, hP1, hD1⟩
  by_cases hb : b = a
  · subst hb
    rw [mput_eq] at q
    exact ⟨hL, by rw [← Option.some.inj q]; simp [va_up]⟩
  · rw [mput_ne hb] at q
    exact ⟨(h1 b e q).1, by rw [va_up_ne _ _ hb]; exact (h1 b e q).2⟩
theorem Wd.push {base : Nat} {D : va_G} {M : Mem} {L : List Nat} {f : Nat → va_E} {H H1 : Heap} {a : Nat} {e1 : va_E} (h1 : ∀ a e, M a = some e → a ∈ L ∧ f a = e) (hP : va_P D clG (va_pl L f) H) (hD1 : va_D (Ab base) (va_pl L f ++ [(a, e1)])) (hP1 : va_P D clG (va_pl L f ++ [(a, e1)]) H1) : Wd base D (mput M a e1) H1 ∧ M a = none := by
  have hn : a ∉ L := va_pl_fresh2 (X := []) hD1
  rw [va_pl_push hn] at hP1 hD1
  refine ⟨⟨L ++ [a], va_up f a e1, fun b e q => ?_, hP1, hD1⟩, ?_⟩
  · by_cases hb : b = a
    · subst hb
      rw [mput_eq] at q
      exact ⟨by simp, by rw [← Option.some.inj q]; simp [va_up]⟩
    · rw [mput_ne hb] at q
      exact ⟨List.mem_append_left _ (h1 b e q).1, by rw [va_up_ne _ _ hb]; exact (h1 b e q).2⟩
  · cases hq : M a with
    | none => rfl
    | some e => exact absurd (h1 a e hq).1 hn
/-- words that stay but aren't 'good' -/
def NGl : List Cond := [.castable "java/lang/UnsupportedOperationException" "java/lang/UnsupportedOperationException", .castable "java/util/NoSuchElementException" "java/util/NoSuchElementException", .castable "java/lang/IndexOutOfBoundsException" "java/lang/IndexOutOfBoundsException", .castable "java/lang/IllegalStateException" "java/lang/IllegalStateException",
  .declares ⟨"java/lang/RuntimeException", "<init>", "(Ljava/lang/String;)V"⟩, .declares ⟨"java/lang/Exception", "<init>", "(Ljava/lang/String;)V"⟩, .declares ⟨"java/lang/Throwable", "<init>", "(Ljava/lang/String;)V"⟩, .methodLinkNest RX3 49 yX1_init RX3]
theorem NGl_on : ∀ w ∈ NGl, w.onTables = true := by decide +kernel
def EnvN (U : State) : Prop := ∀ w ∈ NGl, va_Nw w U
theorem EnvN.warm {s U : State} (hW : s.WarmedH U.vm) (h : EnvN s) : EnvN U := by
  intro w hw
  have h9 := h w hw
  simp only [NGl, List.mem_cons, List.not_mem_nil, or_false] at hw
  rcases hw with rfl | rfl | rfl | rfl | rfl | rfl | rfl | rfl
  · exact va_Nw.warmC hW h9
  · exact va_Nw.warmC hW h9
  · exact va_Nw.warmC hW h9
  · exact va_Nw.warmC hW h9
  · exact va_Nw.warmD hW h9
  · exact va_Nw.warmD hW h9
  · exact va_Nw.warmD hW h9
  · exact va_Nw.warmM hW h9
def strG : List (Nat × String) := [(52, "there are 200 objects"), (154, "there is no such object"), (163, "there is no object that the value refers to"), (165, "a number is not within its bounds"), (85, "a global object's cell can't refer to a local object"), (95, "16 saves live"), (129, "30 states are pushed"), (137, "a byte is 0 .. 255, or -1 to stay")]
def EnvS (sa : Nat → Nat) (U : State) : Prop := ∀ q ∈ strG, vk_R RX3 q.1 q.2 (sa q.1) U
def EnvC (U : State) : Prop := va_Nc "java/lang/IndexOutOfBoundsException" "java/util/NoSuchElementException" U ∧ va_Nc "java/lang/IllegalStateException" "java/util/NoSuchElementException" U ∧ va_Nc "java/lang/IllegalStateException" "java/lang/IndexOutOfBoundsException" U
def EnvO (U : State) : Prop := va_AO RX2 U ∧ va_AO RX1 U ∧ va_AOA .int U
theorem va_AOA.moved {ty : FieldType} {u U : State} (hvm : u.vm.Alike U.vm) (h : va_AOA ty u) : va_AOA ty U := by
  have e := Cond.arrayOver_setVmC (args := #[]) (s := u) hvm (.array ty)
  have e2 : (Cond.arrayOver (.array ty)).before #[] (u.setVm U.vm) = (Cond.arrayOver (.array ty)).before #[] U := rfl
  show (Cond.arrayOver (.array ty)).before #[] U = true
  rw [← e2, e]
  exact h
/-- what every method finds: the classes, the statics and texts of throws -/
def EnvG (base : Nat) (D : va_G) (ct : Nat → ClassId) (sa : Nat → Nat) (U : State) : Prop :=
  base ≤ U.heap.size ∧ va_K D clG (tysG ct) U ∧ (vx_Zq Bundle.tN "UNASSIGNED_STACK" Bundle.steD (Ab base) U U.heap ∧ vx_Zq Bundle.tN "SUPPRESSED_SENTINEL" Bundle.listD (Ab base) U U.heap) ∧ EnvN U ∧ EnvS sa U ∧ EnvC U ∧ EnvO U
theorem EnvG.moved {base : Nat} {D : va_G} {ct : Nat → ClassId} {sa : Nat → Nat} {s U : State} (h : EnvG base D ct sa s) (hW : s.WarmedH U.vm) {locs : List Loc} (hS : va_S (Ab base) s.heap U.heap locs) : EnvG base D ct sa U := by
  obtain ⟨h1, h2, ⟨h3, h4⟩, h5, h6, ⟨h7, h8, h9⟩, ⟨g1, g2, g3⟩⟩ := h
  exact ⟨Nat.le_trans h1 hS.1, va_K.moved hW.alike h2, ⟨vx_Zq.moved hW.alike (h3.kept hS.2.1), vx_Zq.moved hW.alike (h4.kept hS.2.1)⟩, h5.warm hW, fun q hq => vk_R.warm hW (h6 q hq), ⟨va_Nc.moved hW.alike h7, va_Nc.moved hW.alike h8, va_Nc.moved hW.alike h9⟩, ⟨va_AO.moved hW.alike g1, va_AO.moved hW.alike g2, va_AOA.moved hW.alike g3⟩⟩
theorem EnvG.blind {base : Nat} {D : va_G} {ct : Nat → ClassId} {sa : Nat → Nat} {U : State} (h : EnvG base D ct sa U) (g : JFrame) (mk : MethodId) (a : Array Value) : EnvG base D ct sa (U.calling g mk a) := by
  have hW : U.WarmedH (U.calling g mk a).vm := State.WarmedH.refl U
  exact h.moved (U := U.calling g mk a) hW (locs := []) ⟨Nat.le_refl _, fun _ _ _ => rfl, fun _ h => by cases h⟩
/-- a method's start -/
def PreG (base : Nat) (D : va_G) (ct : Nat → ClassId) (sa : Nat → Nat) (M : Mem) (av : List Value) : Array Value → State → Prop := va_Pc av (fun U => EnvG base D ct sa U ∧ Wd base D M U.heap)
theorem PreG.blind {base : Nat} {D : va_G} {ct : Nat → ClassId} {sa : Nat → Nat} {M : Mem} {av : List Value} : FrameBlind (PreG base D ct sa M av) := by
  intro a U g mk h
  exact ⟨h.1, h.2.1.blind g mk a, h.2.2⟩
/-- its end: it returns .. -/
def PQ (base : Nat) (D : va_G) (post : Option Value → Mem → Prop) : Array Value → State → Outcome → State → Prop := fun _ st oc t => (∃ (v : Option Value) (M' : Mem), oc = .returned v ∧ post v M' ∧ Wd base D M' t.heap) ∧ va_F (Ab base) st t
/-- .. or throws -/
def PX (base : Nat) (D : va_G) (px : String → Mem → Prop) : String → State → State → Prop := fun E st t => ∃ M' : Mem, px E M' ∧ Wd base D M' t.heap ∧ va_F (Ab base) st t
/-- CONTRACT of a method: it returns with 'post answer world', or throws an E with 'px E world' -/
def CT (l : Launch) (y : MethodName) (ws : List Cond) (rm : Room) (base : Nat) (D : va_G) (ct : Nat → ClassId) (sa : Nat → Nat) (M : Mem) (av : List Value) (post : Option Value → Mem → Prop) (px : String → Mem → Prop) : Prop :=
  vx_Met l y ws rm (PreG base D ct sa M av) (PQ base D post) (PX base D px) rm.cells rm.slots (Ab base)
/-- CONTRACT of a constructor -/
def CM (l : Launch) (y : MethodName) (ws : List Cond) (rm : Room) (base : Nat) (D : va_G) (ct : Nat → ClassId) (sa : Nat → Nat) (M : Mem) (av : List Value) (post : Option Value → Mem → Prop) : Prop :=
  Met l y ws rm (PreG base D ct sa M av) (PQ base D post) rm.cells rm.slots (Ab base)
def noX : String → Mem → Prop := fun _ _ => False
/-- rooms: k frames, and what they hold -/
abbrev rmK (k mc ms : Nat) : Room := { frames := k, cells := mc, slots := ms, locals := 30 * k + 20 }
def lget (lv : List (Nat × Value)) (i : Nat) : Option Value := (lv.find? (fun q => q.1 == i)).map (fun q => q.2)
def lset (lv : List (Nat × Value)) (i : Nat) (v : Value) : List (Nat × Value) := (i, v) :: lv.filter (fun q => !(q.1 == i) && !(q.1 + 1 == i && q.2.category == 2))
theorem lget_at {ls : Array Slot} {nL : Nat} {lv : List (Nat × Value)} (h : lv_has ls nL lv) {i : Nat} {v : Value} (hg : lget lv i = some v) : ls[i]? = some (.val v) := by
  unfold lget at hg
  obtain ⟨q, h1, h2⟩ := Option.map_eq_some_iff.mp hg
  have h3 := List.find?_some h1
  have h4 : q.1 = i := by simpa using h3
  have h5 := h.2.2 q (List.mem_of_find?_eq_some h1)
  rw [h4, h2] at h5
  exact h5
def lsub (lv : List (Nat × Value)) : List (Nat × Value) → Prop
  | [] => True
  | q :: r => lget lv q.1 = some q.2 ∧ lsub lv r
theorem lsub_has {ls : Array Slot} {nL : Nat} {lv : List (Nat × Value)} (h : lv_has ls nL lv) : ∀ lv' : List (Nat × Value), lsub lv lv' → lv_has ls nL lv' := by
  intro lv' hs
  refine ⟨h.1, h.2.1, ?_⟩
  induction lv' with
  | nil => intro q hq; cases hq
  | cons a r ih =>
    intro q hq
    rcases List.mem_cons.mp hq with rfl | hq
    · exact lget_at h hs.1
    · exact ih hs.2 q hq
/-- the machine at pc, with locals lv, stack st and world M, comes to Q -/
def VV (p : Program) (l : Launch) (e : Env) (R : Room) (s : State) (m : MethodId) (args : Array Value) (below : List Frame) (meth : Method) (c : Code) (nL base : Nat) (D : va_G) (Q : State → Prop) (M : Mem) (k n pc : Nat) (lv : List (Nat × Value)) (st : List Value) : Prop :=
  ∀ (H : Heap) (locs : List Loc) (ls : Array Slot), Wd base D M H → va_S (Ab base) s.heap H locs → lv_has ls nL lv → W p l e R s m args below meth c H locs k n Q (F0 m pc ls st)
/-- what stands in a method's body -/
def Cx (p : Program) (l : Launch) (s : State) (m : MethodId) (args : Array Value) (meth : Method) (c : Code) (cc : ByteArray) (nL : Nat) (own : String) (base : Nat) (D : va_G) (ct : Nat → ClassId) (sa : Nat → Nat) : Prop :=
  p.tables.exec = Jvm.exec ∧ c.code = cc ∧ c.maxLocals = nL ∧ s.vm.findClass own = some m.cls ∧ (∀ w ∈ WL, w.before args s = true) ∧ EnvG base D ct sa s ∧ meth.locks = false ∧ l.stackTraces = false
section
variable {p : Program} {l : Launch} {e : Env} {R : Room} {s : State} {m : MethodId} {args : Array Value} {below : List Frame} {meth : Method} {c : Code} {cc : ByteArray} {nL base : Nat} {own : String} {D : va_G} {ct : Nat → ClassId} {sa : Nat → Nat} {Q : State → Prop} {M : Mem} {k n pc : Nat} {lv : List (Nat × Value)} {st : List Value}
theorem Cx.hA (C : Cx p l s m args meth c cc nL own base D ct sa) : ∀ q, s.heap.size ≤ q → Ab base q := fun q h => Nat.le_trans C.2.2.2.2.2.1.1 h
theorem VV.loc (lv' : List (Nat × Value)) (h : lsub lv lv') (kk : VV p l e R s m args below meth c nL base D Q M k n pc lv' st) : VV p l e R s m args below meth c nL base D Q M k n pc lv st :=
  fun H locs ls hW hS hL => kk H locs ls hW hS (lsub_has hL lv' h)
theorem VV.widen {k' n' : Nat} (h1 : k ≤ k') (h2 : n ≤ n') (kk : VV p l e R s m args below meth c nL base D Q M k' n' pc lv st) : VV p l e R s m args below meth c nL base D Q M k n pc lv st :=
  fun H locs ls hW hS hL => W.widen h1 h2 (kk H locs ls hW hS hL)
theorem VV.mem {M' : Mem} (h : ∀ a e, M' a = some e → M a = some e) (kk : VV p l e R s m args below meth c nL base D Q M' k n pc lv st) : VV p l e R s m args below meth c nL base D Q M k n pc lv st :=
  fun H locs ls hW hS hL => kk H locs ls (hW.sub h) hS hL
theorem VV.eqv {M' : Mem} {st' : List Value} (h1 : M = M') (h2 : st = st') (kk : VV p l e R s m args below meth c nL base D Q M' k n pc lv st') : VV p l e R s m args below meth c nL base D Q M k n pc lv st := by
  subst h1; subst h2; exact kk
-- ROWS BEGIN
theorem lsub_has_cons {ls : Array Slot} {nL : Nat} {lv : List (Nat × Value)} (h : lv_has ls nL lv) {i : Nat} {v : Value} (hg : lget lv i = some v) : lv_has ls nL ((i, v) :: lv) :=
  ⟨h.1, h.2.1, fun q hq => by
    rcases List.mem_cons.mp hq with rfl | hq
    · exact lget_at h hg
    · exact h.2.2 q hq⟩
theorem V_iconst (C : Cx p l s m args meth c cc nL own base D ct sa) {z : Int} (v : Int32) (hd : decode cc pc = .ok (.iconst z, 1)) (hv : Int32.ofInt z = v) (kk : VV p l e R s m args below meth c nL base D Q M k n (pc + 1) lv (.int v :: st)) : VV p l e R s m args below meth c nL base D Q M k n pc lv st := by
  intro H locs ls hW hS hL
  exact lv_iconst C.1 C.2.1 hd hv (kk H locs ls hW hS hL)
theorem V_bipush (C : Cx p l s m args meth c cc nL own base D ct sa) {z : Int} (v : Int32) (hd : decode cc pc = .ok (.bipush z, 2)) (hv : (Int8.ofInt z).toInt32 = v) (kk : VV p l e R s m args below meth c nL base D Q M k n (pc + 2) lv (.int v :: st)) : VV p l e R s m args below meth c nL base D Q M k n pc lv st := by
  intro H locs ls hW hS hL
  exact lv_bipush C.1 C.2.1 hd hv (kk H locs ls hW hS hL)
theorem V_sipush (C : Cx p l s m args meth c cc nL own base D ct sa) {z : Int} (v : Int32) (hd : decode cc pc = .ok (.sipush z, 3)) (hv : (Int16.ofInt z).toInt32 = v) (kk : VV p l e R s m args below meth c nL base D Q M k n (pc + 3) lv (.int v :: st)) : VV p l e R s m args below meth c nL base D Q M k n pc lv st := by
  intro H locs ls hW hS hL
  exact lv_sipush C.1 C.2.1 hd hv (kk H locs ls hW hS hL)
theorem V_null (C : Cx p l s m args meth c cc nL own base D ct sa) (hd : decode cc pc = .ok (.aconst_null, 1)) (kk : VV p l e R s m args below meth c nL base D Q M k n (pc + 1) lv (.null :: st)) : VV p l e R s m args below meth c nL base D Q M k n pc lv st := by
  intro H locs ls hW hS hL
  exact lv_null C.1 C.2.1 hd (kk H locs ls hW hS hL)
theorem V_iload_n (C : Cx p l s m args meth c cc nL own base D ct sa) {i : Fin 4} {x : Int32} (hd : decode cc pc = .ok (.iload_n i, 1)) (hl : lget lv i = some (.int x)) (kk : VV p l e R s m args below meth c nL base D Q M k n (pc + 1) lv (.int x :: st)) : VV p l e R s m args below meth c nL base D Q M k n pc lv st := by
  intro H locs ls hW hS hL
  exact lv_iload_n C.1 C.2.1 hd rfl (lget_at hL hl) (kk H locs ls hW hS hL)
theorem V_iload (C : Cx p l s m args meth c cc nL own base D ct sa) {i : Nat} {x : Int32} (hd : decode cc pc = .ok (.iload i, 2)) (hl : lget lv i = some (.int x)) (kk : VV p l e R s m args below meth c nL base D Q M k n (pc + 2) lv (.int x :: st)) : VV p l e R s m args below meth c nL base D Q M k n pc lv st := by
  intro H locs ls hW hS hL
  exact lv_iload C.1 C.2.1 hd (lget_at hL hl) (kk H locs ls hW hS hL)
theorem V_aload_n (C : Cx p l s m args meth c cc nL own base D ct sa) {i : Fin 4} {x : Nat} (hd : decode cc pc = .ok (.aload_n i, 1)) (hl : lget lv i = some (.ref x)) (kk : VV p l e R s m args below meth c nL base D Q M k n (pc + 1) lv (.ref x :: st)) : VV p l e R s m args below meth c nL base D Q M k n pc lv st := by
  intro H locs ls hW hS hL
  exact lv_aload_n C.1 C.2.1 hd rfl (lget_at hL hl) (kk H locs ls hW hS hL)
theorem V_aload (C : Cx p l s m args meth c cc nL own base D ct sa) {i : Nat} {x : Nat} (hd : decode cc pc = .ok (.aload i, 2)) (hl : lget lv i = some (.ref x)) (kk : VV p l e R s m args below meth c nL base D Q M k n (pc + 2) lv (.ref x :: st)) : VV p l e R s m args below meth c nL base D Q M k n pc lv st := by
  intro H locs ls hW hS hL
  exact lv_aload C.1 C.2.1 hd (lget_at hL hl) (kk H locs ls hW hS hL)
theorem V_aload_nN (C : Cx p l s m args meth c cc nL own base D ct sa) {i : Fin 4} (hd : decode cc pc = .ok (.aload_n i, 1)) (hl : lget lv i = some .null) (kk : VV p l e R s m args below meth c nL base D Q M k n (pc + 1) lv (.null :: st)) : VV p l e R s m args below meth c nL base D Q M k n pc lv st := by
  intro H locs ls hW hS hL
  exact lv_aload_nN C.1 C.2.1 hd rfl (lget_at hL hl) (kk H locs ls hW hS hL)
theorem V_aloadN (C : Cx p l s m args meth c cc nL own base D ct sa) {i : Nat} (hd : decode cc pc = .ok (.aload i, 2)) (hl : lget lv i = some .null) (kk : VV p l e R s m args below meth c nL base D Q M k n (pc + 2) lv (.null :: st)) : VV p l e R s m args below meth c nL base D Q M k n pc lv st := by
  intro H locs ls hW hS hL
  exact lv_aloadN C.1 C.2.1 hd (lget_at hL hl) (kk H locs ls hW hS hL)
theorem V_istore_n (C : Cx p l s m args meth c cc nL own base D ct sa) {i : Fin 4} {x : Int32} (hd : decode cc pc = .ok (.istore_n i, 1)) (hn : (i : Nat) < nL) (kk : VV p l e R s m args below meth c nL base D Q M k n (pc + 1) (lset lv i (.int x)) st) : VV p l e R s m args below meth c nL base D Q M k n pc lv (.int x :: st) := by
  intro H locs ls hW hS hL
  exact lv_istore_n C.1 C.2.1 hd rfl hL hn rfl (fun ls hl => kk H locs ls hW hS hl)
theorem V_istore (C : Cx p l s m args meth c cc nL own base D ct sa) {i : Nat} {x : Int32} (hd : decode cc pc = .ok (.istore i, 2)) (hn : i < nL) (kk : VV p l e R s m args below meth c nL base D Q M k n (pc + 2) (lset lv i (.int x)) st) : VV p l e R s m args below meth c nL base D Q M k n pc lv (.int x :: st) := by
  intro H locs ls hW hS hL
  exact lv_istore C.1 C.2.1 hd hL hn rfl (fun ls hl => kk H locs ls hW hS hl)
theorem V_astore_n (C : Cx p l s m args meth c cc nL own base D ct sa) {i : Fin 4} {x : Nat} (hd : decode cc pc = .ok (.astore_n i, 1)) (hn : (i : Nat) < nL) (kk : VV p l e R s m args below meth c nL base D Q M k n (pc + 1) (lset lv i (.ref x)) st) : VV p l e R s m args below meth c nL base D Q M k n pc lv (.ref x :: st) := by
  intro H locs ls hW hS hL
  exact lv_astore_n C.1 C.2.1 hd rfl hL hn rfl (fun ls hl => kk H locs ls hW hS hl)
theorem V_astore (C : Cx p l s m args meth c cc nL own base D ct sa) {i : Nat} {x : Nat} (hd : decode cc pc = .ok (.astore i, 2)) (hn : i < nL) (kk : VV p l e R s m args below meth c nL base D Q M k n (pc + 2) (lset lv i (.ref x)) st) : VV p l e R s m args below meth c nL base D Q M k n pc lv (.ref x :: st) := by
  intro H locs ls hW hS hL
  exact lv_astore C.1 C.2.1 hd hL hn rfl (fun ls hl => kk H locs ls hW hS hl)
theorem V_astore_nN (C : Cx p l s m args meth c cc nL own base D ct sa) {i : Fin 4} (hd : decode cc pc = .ok (.astore_n i, 1)) (hn : (i : Nat) < nL) (kk : VV p l e R s m args below meth c nL base D Q M k n (pc + 1) (lset lv i .null) st) : VV p l e R s m args below meth c nL base D Q M k n pc lv (.null :: st) := by
  intro H locs ls hW hS hL
  exact lv_astore_nN C.1 C.2.1 hd rfl hL hn rfl (fun ls hl => kk H locs ls hW hS hl)
theorem V_astoreN (C : Cx p l s m args meth c cc nL own base D ct sa) {i : Nat} (hd : decode cc pc = .ok (.astore i, 2)) (hn : i < nL) (kk : VV p l e R s m args below meth c nL base D Q M k n (pc + 2) (lset lv i .null) st) : VV p l e R s m args below meth c nL base D Q M k n pc lv (.null :: st) := by
  intro H locs ls hW hS hL
  exact lv_astoreN C.1 C.2.1 hd hL hn rfl (fun ls hl => kk H locs ls hW hS hl)
theorem V_iinc (C : Cx p l s m args meth c cc nL own base D ct sa) {i : Nat} {z : Int} {x v : Int32} (hd : decode cc pc = .ok (.iinc i z, 3)) (hl : lget lv i = some (.int x)) (hv : x + Int32.ofInt z = v) (hn : i < nL) (kk : VV p l e R s m args below meth c nL base D Q M k n (pc + 3) (lset lv i (.int v)) st) : VV p l e R s m args below meth c nL base D Q M k n pc lv st := by
  intro H locs ls hW hS hL
  have hL2 : lv_has ls nL ((i, .int x) :: lv) := lsub_has_cons hL hl
  have hle : lset ((i, .int x) :: lv) i (.int v) = lset lv i (.int v) := by simp [lset]
  exact lv_iinc (k := 0) (lv' := lset lv i (.int v)) C.1 C.2.1 hd hL2 rfl hv hn hle (fun ls hl => kk H locs ls hW hS hl)
theorem V_iadd (C : Cx p l s m args meth c cc nL own base D ct sa) {x y : Int32} (hd : decode cc pc = .ok (.iadd, 1)) (kk : VV p l e R s m args below meth c nL base D Q M k n (pc + 1) lv (.int (x + y) :: st)) : VV p l e R s m args below meth c nL base D Q M k n pc lv (.int y :: .int x :: st) := by
  intro H locs ls hW hS hL
  exact lv_iadd C.1 C.2.1 hd (kk H locs ls hW hS hL)
theorem V_isub (C : Cx p l s m args meth c cc nL own base D ct sa) {x y : Int32} (hd : decode cc pc = .ok (.isub, 1)) (kk : VV p l e R s m args below meth c nL base D Q M k n (pc + 1) lv (.int (x - y) :: st)) : VV p l e R s m args below meth c nL base D Q M k n pc lv (.int y :: .int x :: st) := by
  intro H locs ls hW hS hL
  exact lv_isub C.1 C.2.1 hd (kk H locs ls hW hS hL)
theorem V_imul (C : Cx p l s m args meth c cc nL own base D ct sa) {x y : Int32} (hd : decode cc pc = .ok (.imul, 1)) (kk : VV p l e R s m args below meth c nL base D Q M k n (pc + 1) lv (.int (x * y) :: st)) : VV p l e R s m args below meth c nL base D Q M k n pc lv (.int y :: .int x :: st) := by
  intro H locs ls hW hS hL
  exact lv_imul C.1 C.2.1 hd (kk H locs ls hW hS hL)
theorem V_iand (C : Cx p l s m args meth c cc nL own base D ct sa) {x y : Int32} (hd : decode cc pc = .ok (.iand, 1)) (kk : VV p l e R s m args below meth c nL base D Q M k n (pc + 1) lv (.int (x &&& y) :: st)) : VV p l e R s m args below meth c nL base D Q M k n pc lv (.int y :: .int x :: st) := by
  intro H locs ls hW hS hL
  exact lv_iand C.1 C.2.1 hd (kk H locs ls hW hS hL)
theorem V_i2l (C : Cx p l s m args meth c cc nL own base D ct sa) {x : Int32} (hd : decode cc pc = .ok (.i2l, 1)) (kk : VV p l e R s m args below meth c nL base D Q M k n (pc + 1) lv (.long x.toInt64 :: st)) : VV p l e R s m args below meth c nL base D Q M k n pc lv (.int x :: st) := by
  intro H locs ls hW hS hL
  exact lv_i2l C.1 C.2.1 hd rfl (kk H locs ls hW hS hL)
theorem V_lcmp (C : Cx p l s m args meth c cc nL own base D ct sa) {x y : Int64} (hd : decode cc pc = .ok (.lcmp, 1)) (kk : VV p l e R s m args below meth c nL base D Q M k n (pc + 1) lv (.int (lg_cmp x y) :: st)) : VV p l e R s m args below meth c nL base D Q M k n pc lv (.long y :: .long x :: st) := by
  intro H locs ls hW hS hL
  exact W.lcmp C.1 C.2.1 hd (kk H locs ls hW hS hL)
theorem V_dup (C : Cx p l s m args meth c cc nL own base D ct sa) {v : Value} (hd : decode cc pc = .ok (.dup, 1)) (hc : v.category = 1) (kk : VV p l e R s m args below meth c nL base D Q M k n (pc + 1) lv (v :: v :: st)) : VV p l e R s m args below meth c nL base D Q M k n pc lv (v :: st) := by
  intro H locs ls hW hS hL
  exact lv_dup C.1 C.2.1 hd hc (kk H locs ls hW hS hL)
theorem V_if_eq (C : Cx p l s m args meth c cc nL own base D ct sa) {x : Int32} {off : Int} (tgt : Nat) (hd : decode cc pc = .ok (.ifCond .eq off, 3)) (ht : (pc : Int) + off = (tgt : Int)) (kt : x = 0 → VV p l e R s m args below meth c nL base D Q M k n tgt lv st) (kf : ¬ x = 0 → VV p l e R s m args below meth c nL base D Q M k n (pc + 3) lv st) : VV p l e R s m args below meth c nL base D Q M k n pc lv (.int x :: st) := by
  intro H locs ls hW hS hL
  exact lv_if_eq C.1 C.2.1 hd ht (fun h => kt (by first | exact h | exact Int32.not_lt.mp h | omega) H locs ls hW hS hL) (fun h => kf (by first | exact h | exact fun g => h g) H locs ls hW hS hL)
theorem V_icmp_eq (C : Cx p l s m args meth c cc nL own base D ct sa) {x y : Int32} {off : Int} (tgt : Nat) (hd : decode cc pc = .ok (.if_icmp .eq off, 3)) (ht : (pc : Int) + off = (tgt : Int)) (kt : x = y → VV p l e R s m args below meth c nL base D Q M k n tgt lv st) (kf : ¬ x = y → VV p l e R s m args below meth c nL base D Q M k n (pc + 3) lv st) : VV p l e R s m args below meth c nL base D Q M k n pc lv (.int y :: .int x :: st) := by
  intro H locs ls hW hS hL
  exact lv_icmp_eq C.1 C.2.1 hd ht (fun h => kt (by first | exact h | omega) H locs ls hW hS hL) (fun h => kf (by first | exact h | exact fun g => h g) H locs ls hW hS hL)
theorem V_if_ne (C : Cx p l s m args meth c cc nL own base D ct sa) {x : Int32} {off : Int} (tgt : Nat) (hd : decode cc pc = .ok (.ifCond .ne off, 3)) (ht : (pc : Int) + off = (tgt : Int)) (kt : ¬ x = 0 → VV p l e R s m args below meth c nL base D Q M k n tgt lv st) (kf : x = 0 → VV p l e R s m args below meth c nL base D Q M k n (pc + 3) lv st) : VV p l e R s m args below meth c nL base D Q M k n pc lv (.int x :: st) := by
  intro H locs ls hW hS hL
  exact lv_if_ne C.1 C.2.1 hd ht (fun h => kt (by first | exact h | exact Int32.not_lt.mp h | omega) H locs ls hW hS hL) (fun h => kf (by first | exact h | exact fun g => h g) H locs ls hW hS hL)
theorem V_icmp_ne (C : Cx p l s m args meth c cc nL own base D ct sa) {x y : Int32} {off : Int} (tgt : Nat) (hd : decode cc pc = .ok (.if_icmp .ne off, 3)) (ht : (pc : Int) + off = (tgt : Int)) (kt : ¬ x = y → VV p l e R s m args below meth c nL base D Q M k n tgt lv st) (kf : x = y → VV p l e R s m args below meth c nL base D Q M k n (pc + 3) lv st) : VV p l e R s m args below meth c nL base D Q M k n pc lv (.int y :: .int x :: st) := by
  intro H locs ls hW hS hL
  exact lv_icmp_ne C.1 C.2.1 hd ht (fun h => kt (by first | exact h | omega) H locs ls hW hS hL) (fun h => kf (by first | exact h | exact fun g => h g) H locs ls hW hS hL)
theorem V_if_lt (C : Cx p l s m args meth c cc nL own base D ct sa) {x : Int32} {off : Int} (tgt : Nat) (hd : decode cc pc = .ok (.ifCond .lt off, 3)) (ht : (pc : Int) + off = (tgt : Int)) (kt : x < 0 → VV p l e R s m args below meth c nL base D Q M k n tgt lv st) (kf : ¬ x < 0 → VV p l e R s m args below meth c nL base D Q M k n (pc + 3) lv st) : VV p l e R s m args below meth c nL base D Q M k n pc lv (.int x :: st) := by
  intro H locs ls hW hS hL
  exact lv_if_lt C.1 C.2.1 hd ht (fun h => kt (by first | exact h | exact Int32.not_lt.mp h | omega) H locs ls hW hS hL) (fun h => kf (by first | exact h | exact fun g => h g) H locs ls hW hS hL)
theorem V_icmp_lt (C : Cx p l s m args meth c cc nL own base D ct sa) {x y : Int32} {off : Int} (tgt : Nat) (hd : decode cc pc = .ok (.if_icmp .lt off, 3)) (ht : (pc : Int) + off = (tgt : Int)) (kt : x < y → VV p l e R s m args below meth c nL base D Q M k n tgt lv st) (kf : ¬ x < y → VV p l e R s m args below meth c nL base D Q M k n (pc + 3) lv st) : VV p l e R s m args below meth c nL base D Q M k n pc lv (.int y :: .int x :: st) := by
  intro H locs ls hW hS hL
  exact lv_icmp_lt C.1 C.2.1 hd ht (fun h => kt (by first | exact h | omega) H locs ls hW hS hL) (fun h => kf (by first | exact h | exact fun g => h g) H locs ls hW hS hL)
theorem V_if_ge (C : Cx p l s m args meth c cc nL own base D ct sa) {x : Int32} {off : Int} (tgt : Nat) (hd : decode cc pc = .ok (.ifCond .ge off, 3)) (ht : (pc : Int) + off = (tgt : Int)) (kt : 0 ≤ x → VV p l e R s m args below meth c nL base D Q M k n tgt lv st) (kf : ¬ 0 ≤ x → VV p l e R s m args below meth c nL base D Q M k n (pc + 3) lv st) : VV p l e R s m args below meth c nL base D Q M k n pc lv (.int x :: st) := by
  intro H locs ls hW hS hL
  exact lv_if_ge C.1 C.2.1 hd ht (fun h => kt (by first | exact h | exact Int32.not_lt.mp h | omega) H locs ls hW hS hL) (fun h => kf (by first | exact h | exact fun g => h g) H locs ls hW hS hL)
theorem V_icmp_ge (C : Cx p l s m args meth c cc nL own base D ct sa) {x y : Int32} {off : Int} (tgt : Nat) (hd : decode cc pc = .ok (.if_icmp .ge off, 3)) (ht : (pc : Int) + off = (tgt : Int)) (kt : y ≤ x → VV p l e R s m args below meth c nL base D Q M k n tgt lv st) (kf : ¬ y ≤ x → VV p l e R s m args below meth c nL base D Q M k n (pc + 3) lv st) : VV p l e R s m args below meth c nL base D Q M k n pc lv (.int y :: .int x :: st) := by
  intro H locs ls hW hS hL
  exact lv_icmp_ge C.1 C.2.1 hd ht (fun h => kt (by first | exact h | omega) H locs ls hW hS hL) (fun h => kf (by first | exact h | exact fun g => h g) H locs ls hW hS hL)
theorem V_if_gt (C : Cx p l s m args meth c cc nL own base D ct sa) {x : Int32} {off : Int} (tgt : Nat) (hd : decode cc pc = .ok (.ifCond .gt off, 3)) (ht : (pc : Int) + off = (tgt : Int)) (kt : 0 < x → VV p l e R s m args below meth c nL base D Q M k n tgt lv st) (kf : ¬ 0 < x → VV p l e R s m args below meth c nL base D Q M k n (pc + 3) lv st) : VV p l e R s m args below meth c nL base D Q M k n pc lv (.int x :: st) := by
  intro H locs ls hW hS hL
  exact lv_if_gt C.1 C.2.1 hd ht (fun h => kt (by first | exact h | exact Int32.not_lt.mp h | omega) H locs ls hW hS hL) (fun h => kf (by first | exact h | exact fun g => h g) H locs ls hW hS hL)
theorem V_icmp_gt (C : Cx p l s m args meth c cc nL own base D ct sa) {x y : Int32} {off : Int} (tgt : Nat) (hd : decode cc pc = .ok (.if_icmp .gt off, 3)) (ht : (pc : Int) + off = (tgt : Int)) (kt : y < x → VV p l e R s m args below meth c nL base D Q M k n tgt lv st) (kf : ¬ y < x → VV p l e R s m args below meth c nL base D Q M k n (pc + 3) lv st) : VV p l e R s m args below meth c nL base D Q M k n pc lv (.int y :: .int x :: st) := by
  intro H locs ls hW hS hL
  exact lv_icmp_gt C.1 C.2.1 hd ht (fun h => kt (by first | exact h | omega) H locs ls hW hS hL) (fun h => kf (by first | exact h | exact fun g => h g) H locs ls hW hS hL)
theorem V_if_le (C : Cx p l s m args meth c cc nL own base D ct sa) {x : Int32} {off : Int} (tgt : Nat) (hd : decode cc pc = .ok (.ifCond .le off, 3)) (ht : (pc : Int) + off = (tgt : Int)) (kt : x ≤ 0 → VV p l e R s m args below meth c nL base D Q M k n tgt lv st) (kf : ¬ x ≤ 0 → VV p l e R s m args below meth c nL base D Q M k n (pc + 3) lv st) : VV p l e R s m args below meth c nL base D Q M k n pc lv (.int x :: st) := by
  intro H locs ls hW hS hL
  exact lv_if_le C.1 C.2.1 hd ht (fun h => kt (by first | exact h | exact Int32.not_lt.mp h | omega) H locs ls hW hS hL) (fun h => kf (by first | exact h | exact fun g => h g) H locs ls hW hS hL)
theorem V_icmp_le (C : Cx p l s m args meth c cc nL own base D ct sa) {x y : Int32} {off : Int} (tgt : Nat) (hd : decode cc pc = .ok (.if_icmp .le off, 3)) (ht : (pc : Int) + off = (tgt : Int)) (kt : x ≤ y → VV p l e R s m args below meth c nL base D Q M k n tgt lv st) (kf : ¬ x ≤ y → VV p l e R s m args below meth c nL base D Q M k n (pc + 3) lv st) : VV p l e R s m args below meth c nL base D Q M k n pc lv (.int y :: .int x :: st) := by
  intro H locs ls hW hS hL
  exact lv_icmp_le C.1 C.2.1 hd ht (fun h => kt (by first | exact h | omega) H locs ls hW hS hL) (fun h => kf (by first | exact h | exact fun g => h g) H locs ls hW hS hL)
theorem V_goto (C : Cx p l s m args meth c cc nL own base D ct sa) {off : Int} (tgt : Nat) (hd : decode cc pc = .ok (.goto off, 3)) (ht : (pc : Int) + off = (tgt : Int)) (kk : VV p l e R s m args below meth c nL base D Q M k n tgt lv st) : VV p l e R s m args below meth c nL base D Q M k n pc lv st := by
  intro H locs ls hW hS hL
  exact lv_goto C.1 C.2.1 hd ht (kk H locs ls hW hS hL)
theorem V_ifnull (C : Cx p l s m args meth c cc nL own base D ct sa) {x : Nat} {off : Int} (hd : decode cc pc = .ok (.ifnull off, 3)) (kk : VV p l e R s m args below meth c nL base D Q M k n (pc + 3) lv st) : VV p l e R s m args below meth c nL base D Q M k n pc lv (.ref x :: st) := by
  intro H locs ls hW hS hL
  exact lv_ifnull C.1 C.2.1 hd (kk H locs ls hW hS hL)
theorem V_ifnullN (C : Cx p l s m args meth c cc nL own base D ct sa) {off : Int} (tgt : Nat) (hd : decode cc pc = .ok (.ifnull off, 3)) (ht : (pc : Int) + off = (tgt : Int)) (kk : VV p l e R s m args below meth c nL base D Q M k n tgt lv st) : VV p l e R s m args below meth c nL base D Q M k n pc lv (.null :: st) := by
  intro H locs ls hW hS hL
  exact lv_ifnullN C.1 C.2.1 hd ht (kk H locs ls hW hS hL)
theorem V_ifnonnull (C : Cx p l s m args meth c cc nL own base D ct sa) {x : Nat} {off : Int} (tgt : Nat) (hd : decode cc pc = .ok (.ifnonnull off, 3)) (ht : (pc : Int) + off = (tgt : Int)) (kk : VV p l e R s m args below meth c nL base D Q M k n tgt lv st) : VV p l e R s m args below meth c nL base D Q M k n pc lv (.ref x :: st) := by
  intro H locs ls hW hS hL
  exact lv_ifnonnull C.1 C.2.1 hd ht (kk H locs ls hW hS hL)
theorem V_ifnonnullN (C : Cx p l s m args meth c cc nL own base D ct sa) {off : Int} (hd : decode cc pc = .ok (.ifnonnull off, 3)) (kk : VV p l e R s m args below meth c nL base D Q M k n (pc + 3) lv st) : VV p l e R s m args below meth c nL base D Q M k n pc lv (.null :: st) := by
  intro H locs ls hW hS hL
  exact lv_ifnonnullN C.1 C.2.1 hd (kk H locs ls hW hS hL)
theorem V_get (C : Cx p l s m args meth c cc nL own base D ct sa) {a ci index : Nat} {ref Cn : String} {T : u_T} {N : Nat} {fs : List Value} {v : Value} (hm : M a = some (.inr (ci, fs))) (hc : clG[ci]? = some (Cn, T, N)) (hin : ∀ w ∈ u_ws Cn T N, w ∈ WL) (j : Nat) (hj : j < N) (hl : Cond.fieldLink own index ref (T j).2.1 (T j).2.2.1 ∈ WL) (href : (T j).1 = ref) (hv : fs[j]? = some v) (hd : decode cc pc = .ok (.getfield index, 3)) (kk : VV p l e R s m args below meth c nL base D Q M k n (pc + 3) lv (v :: st)) : VV p l e R s m args below meth c nL base D Q M k n pc lv (.ref a :: st) := by
  intro H locs ls hW hS hL
  obtain ⟨L, f, h1, h2, h3⟩ := id hW
  obtain ⟨q0, hq⟩ := pl_at (h1 a _ hm)
  subst href
  exact va_get C.1 C.2.1 C.2.2.2.2.1 hin C.2.2.2.1 C.2.2.2.2.2.1.2.1 h2 q0 hq hc j hj (C.2.2.2.2.1 _ hl) (fun _ h => h) hv hd (kk H locs ls hW hS hL)
theorem V_put (C : Cx p l s m args meth c cc nL own base D ct sa) {a ci index : Nat} {ref Cn : String} {T : u_T} {N : Nat} {fs : List Value} {v : Value} (hm : M a = some (.inr (ci, fs))) (hc : clG[ci]? = some (Cn, T, N)) (hin : ∀ w ∈ u_ws Cn T N, w ∈ WL) (j : Nat) (hj : j < N) (hl : Cond.fieldLink own index ref (T j).2.1 (T j).2.2.1 ∈ WL) (href : (T j).1 = ref) (ty0 : Nat → FieldType) (hty : ∀ k, k < N → parseFieldDescriptor (T k).2.2.1 = some (ty0 k)) (hnm : ∀ a, a < N → ∀ b, b < N → a ≠ b → (T a).2.1 ≠ (T b).2.1) (hfin : (T j).2.2.2 = false) (hn : narrow (ty0 j) v = v) (hfit : fits (ty0 j) v = true) (hlen : j < fs.length) (hd : decode cc pc = .ok (.putfield index, 3)) (kk : VV p l e R s m args below meth c nL base D Q (mput M a (.inr (ci, fs.set j v))) k n (pc + 3) lv st) : VV p l e R s m args below meth c nL base D Q M k n pc lv (v :: .ref a :: st) := by
  intro H locs ls hW hS hL
  obtain ⟨L, f, h1, h2, h3⟩ := id hW
  obtain ⟨q0, hq⟩ := pl_at (h1 a _ hm)
  subst href
  exact va_put C.1 C.2.1 C.2.2.2.2.1 hin ty0 hty hnm C.2.2.2.1 C.2.2.2.2.2.1.2.1 h2 h3 hS q0 hq hc j hj (C.2.2.2.2.1 _ hl) (fun _ h => h) hfin (hty j hj) hn hfit hlen hd (fun H1 locs1 hP1 hD1 hS1 => kk H1 locs1 ls (Wd.set h1 h3 hm hq hP1 hD1) hS1 hL)
theorem V_putF (C : Cx p l s m args meth c cc nL own base D ct sa) {a ci index : Nat} {ref Cn : String} {T : u_T} {N : Nat} {fs : List Value} {v : Value} (hm : M a = some (.inr (ci, fs))) (hc : clG[ci]? = some (Cn, T, N)) (hin : ∀ w ∈ u_ws Cn T N, w ∈ WL) (j : Nat) (hj : j < N) (hl : Cond.fieldLink own index ref (T j).2.1 (T j).2.2.1 ∈ WL) (href : (T j).1 = ref) (ty0 : Nat → FieldType) (hty : ∀ k, k < N → parseFieldDescriptor (T k).2.2.1 = some (ty0 k)) (hnm : ∀ a, a < N → ∀ b, b < N → a ≠ b → (T a).2.1 ≠ (T b).2.1) (hfin : (T j).2.2.2 = true) (hname : meth.name = "<init>") (hown : (T j).1 = own) (hn : narrow (ty0 j) v = v) (hfit : fits (ty0 j) v = true) (hlen : j < fs.length) (hd : decode cc pc = .ok (.putfield index, 3)) (kk : VV p l e R s m args below meth c nL base D Q (mput M a (.inr (ci, fs.set j v))) k n (pc + 3) lv st) : VV p l e R s m args below meth c nL base D Q M k n pc lv (v :: .ref a :: st) := by
  intro H locs ls hW hS hL
  obtain ⟨L, f, h1, h2, h3⟩ := id hW
  obtain ⟨q0, hq⟩ := pl_at (h1 a _ hm)
  subst href
  exact va_putF C.1 C.2.1 C.2.2.2.2.1 hin ty0 hty hnm C.2.2.2.1 C.2.2.2.2.2.1.2.1 h2 h3 hS q0 hq hc j hj (C.2.2.2.2.1 _ hl) (fun _ h => h) hfin hname hown (hty j hj) hn hfit hlen hd (fun H1 locs1 hP1 hD1 hS1 => kk H1 locs1 ls (Wd.set h1 h3 hm hq hP1 hD1) hS1 hL)
theorem V_iald (C : Cx p l s m args meth c cc nL own base D ct sa) {a N : Nat} {f : Nat → Int32} {i : Int32} (hm : M a = some (.inl (ct 0, N, .inl f))) (hi : vp_in i N) (hd : decode cc pc = .ok (.iaload, 1)) (kk : VV p l e R s m args below meth c nL base D Q M k n (pc + 1) lv (.int (f i.toNatClampNeg) :: st)) : VV p l e R s m args below meth c nL base D Q M k n pc lv (.int i :: .ref a :: st) := by
  intro H locs ls hW hS hL
  obtain ⟨L, f9, h1, h2, h3⟩ := id hW
  obtain ⟨q0, hq⟩ := pl_at (h1 a _ hm)
  exact va_iald C.1 C.2.1 C.2.2.2.2.2.1.2.1 h2 q0 0 hq rfl hi hd (kk H locs ls hW hS hL)
theorem V_zald (C : Cx p l s m args meth c cc nL own base D ct sa) {a N : Nat} {f : Nat → Int32} {i : Int32} (hm : M a = some (.inl (ct 1, N, .inl f))) (hi : vp_in i N) (hd : decode cc pc = .ok (.baload, 1)) (kk : VV p l e R s m args below meth c nL base D Q M k n (pc + 1) lv (.int (f i.toNatClampNeg) :: st)) : VV p l e R s m args below meth c nL base D Q M k n pc lv (.int i :: .ref a :: st) := by
  intro H locs ls hW hS hL
  obtain ⟨L, f9, h1, h2, h3⟩ := id hW
  obtain ⟨q0, hq⟩ := pl_at (h1 a _ hm)
  exact va_zald C.1 C.2.1 C.2.2.2.2.2.1.2.1 h2 q0 1 hq rfl hi hd (kk H locs ls hW hS hL)
theorem V_lald (C : Cx p l s m args meth c cc nL own base D ct sa) {a N : Nat} {f : Nat → Int64} {i : Int32} (hm : M a = some (.inl (ct 2, N, .inr (.inl f)))) (hi : vp_in i N) (hd : decode cc pc = .ok (.laload, 1)) (kk : VV p l e R s m args below meth c nL base D Q M k n (pc + 1) lv (.long (f i.toNatClampNeg) :: st)) : VV p l e R s m args below meth c nL base D Q M k n pc lv (.int i :: .ref a :: st) := by
  intro H locs ls hW hS hL
  obtain ⟨L, f9, h1, h2, h3⟩ := id hW
  obtain ⟨q0, hq⟩ := pl_at (h1 a _ hm)
  exact va_lald C.1 C.2.1 C.2.2.2.2.2.1.2.1 h2 q0 2 hq rfl hi hd (kk H locs ls hW hS hL)
theorem V_aldS (C : Cx p l s m args meth c cc nL own base D ct sa) {a N : Nat} {f : Nat → Option Nat} {i : Int32} (hm : M a = some (.inl (ct 3, N, .inr (.inr (.inr (.inr f)))))) (hi : vp_in i N) (hd : decode cc pc = .ok (.aaload, 1)) (kk : VV p l e R s m args below meth c nL base D Q M k n (pc + 1) lv (va_rf (f i.toNatClampNeg) :: st)) : VV p l e R s m args below meth c nL base D Q M k n pc lv (.int i :: .ref a :: st) := by
  intro H locs ls hW hS hL
  obtain ⟨L, f9, h1, h2, h3⟩ := id hW
  obtain ⟨q0, hq⟩ := pl_at (h1 a _ hm)
  exact va_aldq C.1 C.2.1 C.2.2.2.2.2.1.2.1 h2 q0 3 hq rfl hi hd (kk H locs ls hW hS hL)
theorem V_aldT (C : Cx p l s m args meth c cc nL own base D ct sa) {a N : Nat} {f : Nat → Option Nat} {i : Int32} (hm : M a = some (.inl (ct 4, N, .inr (.inr (.inr (.inr f)))))) (hi : vp_in i N) (hd : decode cc pc = .ok (.aaload, 1)) (kk : VV p l e R s m args below meth c nL base D Q M k n (pc + 1) lv (va_rf (f i.toNatClampNeg) :: st)) : VV p l e R s m args below meth c nL base D Q M k n pc lv (.int i :: .ref a :: st) := by
  intro H locs ls hW hS hL
  obtain ⟨L, f9, h1, h2, h3⟩ := id hW
  obtain ⟨q0, hq⟩ := pl_at (h1 a _ hm)
  exact va_aldq C.1 C.2.1 C.2.2.2.2.2.1.2.1 h2 q0 4 hq rfl hi hd (kk H locs ls hW hS hL)
theorem V_iast (C : Cx p l s m args meth c cc nL own base D ct sa) {a N : Nat} {f : Nat → Int32} {i : Int32} {x : Int32} (hm : M a = some (.inl (ct 0, N, .inl f))) (hi : vp_in i N) (hd : decode cc pc = .ok (.iastore, 1)) (kk : VV p l e R s m args below meth c nL base D Q (mput M a (.inl (ct 0, N, .inl (upd f i.toNatClampNeg x)))) k n (pc + 1) lv st) : VV p l e R s m args below meth c nL base D Q M k n pc lv (.int x :: .int i :: .ref a :: st) := by
  intro H locs ls hW hS hL
  obtain ⟨L, f9, h1, h2, h3⟩ := id hW
  obtain ⟨q0, hq⟩ := pl_at (h1 a _ hm)
  exact va_iast C.1 C.2.1 C.2.2.2.2.2.1.2.1 h2 h3 hS q0 0 hq rfl hi hd (fun H1 locs1 hP1 hD1 hS1 => kk H1 locs1 ls (Wd.set h1 h3 hm hq hP1 hD1) hS1 hL)
theorem V_last (C : Cx p l s m args meth c cc nL own base D ct sa) {a N : Nat} {f : Nat → Int64} {i : Int32} {x : Int64} (hm : M a = some (.inl (ct 2, N, .inr (.inl f)))) (hi : vp_in i N) (hd : decode cc pc = .ok (.lastore, 1)) (kk : VV p l e R s m args below meth c nL base D Q (mput M a (.inl (ct 2, N, .inr (.inl (vp_updL f i.toNatClampNeg x))))) k n (pc + 1) lv st) : VV p l e R s m args below meth c nL base D Q M k n pc lv (.long x :: .int i :: .ref a :: st) := by
  intro H locs ls hW hS hL
  obtain ⟨L, f9, h1, h2, h3⟩ := id hW
  obtain ⟨q0, hq⟩ := pl_at (h1 a _ hm)
  exact va_last C.1 C.2.1 C.2.2.2.2.2.1.2.1 h2 h3 hS q0 2 hq rfl hi hd (fun H1 locs1 hP1 hD1 hS1 => kk H1 locs1 ls (Wd.set h1 h3 hm hq hP1 hD1) hS1 hL)
theorem V_zast (C : Cx p l s m args meth c cc nL own base D ct sa) {a N : Nat} {f : Nat → Int32} {i : Int32} {x : Int32} (hm : M a = some (.inl (ct 1, N, .inl f))) (hi : vp_in i N) (hd : decode cc pc = .ok (.bastore, 1)) (kk : VV p l e R s m args below meth c nL base D Q (mput M a (.inl (ct 1, N, .inl (upd f i.toNatClampNeg (vp_nar .boolean x))))) k n (pc + 1) lv st) : VV p l e R s m args below meth c nL base D Q M k n pc lv (.int x :: .int i :: .ref a :: st) := by
  intro H locs ls hW hS hL
  obtain ⟨L, f9, h1, h2, h3⟩ := id hW
  obtain ⟨q0, hq⟩ := pl_at (h1 a _ hm)
  exact va_zast C.1 C.2.1 C.2.2.2.2.2.1.2.1 h2 h3 hS q0 1 hq rfl hi hd (fun H1 locs1 hP1 hD1 hS1 => kk H1 locs1 ls (Wd.set h1 h3 hm hq hP1 hD1) hS1 hL)
theorem V_aastS (C : Cx p l s m args meth c cc nL own base D ct sa) {a N x : Nat} {f : Nat → Option Nat} {i : Int32} {vs : List Value} (hm : M a = some (.inl (ct 3, N, .inr (.inr (.inr (.inr f)))))) (hx : M x = some (.inr (1, vs))) (hi : vp_in i N) (hd : decode cc pc = .ok (.aastore, 1)) (kk : VV p l e R s m args below meth c nL base D Q (mput M a (.inl (ct 3, N, .inr (.inr (.inr (.inr (va_up f i.toNatClampNeg (some x)))))))) k n (pc + 1) lv st) : VV p l e R s m args below meth c nL base D Q M k n pc lv (.ref x :: .int i :: .ref a :: st) := by
  intro H locs ls hW hS hL
  obtain ⟨L, f9, h1, h2, h3⟩ := id hW
  obtain ⟨q0, hq⟩ := pl_at (h1 a _ hm)
  obtain ⟨q1, hq1⟩ := pl_at (h1 x _ hx)
  exact va_astq C.1 C.2.1 C.2.2.2.2.2.1.2.1 h2 h3 hS q0 3 q1 1 hq rfl hq1 rfl hi hd (fun H1 locs1 hP1 hD1 hS1 => kk H1 locs1 ls (Wd.set h1 h3 hm hq hP1 hD1) hS1 hL)
theorem V_aastT (C : Cx p l s m args meth c cc nL own base D ct sa) {a N x : Nat} {f : Nat → Option Nat} {i : Int32} {vs : List Value} (hm : M a = some (.inl (ct 4, N, .inr (.inr (.inr (.inr f)))))) (hx : M x = some (.inr (2, vs))) (hi : vp_in i N) (hd : decode cc pc = .ok (.aastore, 1)) (kk : VV p l e R s m args below meth c nL base D Q (mput M a (.inl (ct 4, N, .inr (.inr (.inr (.inr (va_up f i.toNatClampNeg (some x)))))))) k n (pc + 1) lv st) : VV p l e R s m args below meth c nL base D Q M k n pc lv (.ref x :: .int i :: .ref a :: st) := by
  intro H locs ls hW hS hL
  obtain ⟨L, f9, h1, h2, h3⟩ := id hW
  obtain ⟨q0, hq⟩ := pl_at (h1 a _ hm)
  obtain ⟨q1, hq1⟩ := pl_at (h1 x _ hx)
  exact va_astq C.1 C.2.1 C.2.2.2.2.2.1.2.1 h2 h3 hS q0 4 q1 2 hq rfl hq1 rfl hi hd (fun H1 locs1 hP1 hD1 hS1 => kk H1 locs1 ls (Wd.set h1 h3 hm hq hP1 hD1) hS1 hL)
theorem V_aldU (C : Cx p l s m args meth c cc nL own base D ct sa) {a N : Nat} {f : Nat → Option Nat} {i : Int32} (hm : M a = some (.inl (ct 5, N, .inr (.inr (.inr (.inr f)))))) (hi : vp_in i N) (hd : decode cc pc = .ok (.aaload, 1)) (kk : VV p l e R s m args below meth c nL base D Q M k n (pc + 1) lv (va_rf (f i.toNatClampNeg) :: st)) : VV p l e R s m args below meth c nL base D Q M k n pc lv (.int i :: .ref a :: st) := by
  intro H locs ls hW hS hL
  obtain ⟨L, f9, h1, h2, h3⟩ := id hW
  obtain ⟨q0, hq⟩ := pl_at (h1 a _ hm)
  have hlt : i.toNatClampNeg < N := Nat.not_le.mp fun q => hi (Or.inr q)
  exact W.aald (v := va_rf (f i.toNatClampNeg)) (ty := .array .int) C.1 C.2.1 (h2 q0 _ hq) ((C.2.2.2.2.2.1.2.1.2 5 _ rfl).1 N (fun j => va_rf (f j))) rfl (fun q => by cases q) (by show ¬ (i < 0 ∨ (arrV _ _ _).slots.size ≤ _); rw [arrV_size]; exact hi) (by show (arrV _ _ _).slots[_]? = _; rw [arrV_read _ _ hlt]) rfl rfl hd (kk H locs ls hW hS hL)
theorem V_new (C : Cx p l s m args meth c cc nL own base D ct sa) {ci index : Nat} {Cn : String} {T : u_T} {N : Nat} {fs : List Value} (hc : clG[ci]? = some (Cn, T, N)) (hin : ∀ w ∈ u_ws Cn T N, w ∈ WL) (ty0 : Nat → FieldType) (hty : ∀ k, k < N → parseFieldDescriptor (T k).2.2.1 = some (ty0 k)) (hl : Cond.classLink own index Cn ∈ WL) (hinst : Cond.instantiable Cn N ∈ WL) (hini : Cond.initialized Cn ∈ WL) (hfs : ∀ j, j < N → defaultValue (ty0 j) = vp_V fs j) (hk : k + 1 ≤ R.cells) (hs : n + N ≤ R.slots) (hd : decode cc pc = .ok (.new index, 3)) (kk : ∀ q : Nat, M q = none → VV p l e R s m args below meth c nL base D Q (mput M q (.inr (ci, fs))) (k + 1) (n + N) (pc + 3) lv (.ref q :: st)) : VV p l e R s m args below meth c nL base D Q M k n pc lv st := by
  intro H locs ls hW hS hL
  obtain ⟨L, f9, h1, h2, h3⟩ := id hW
  exact va_new C.1 C.2.1 C.2.2.2.2.1 hin ty0 hty C.2.2.2.1 (C.2.2.2.2.1 _ hl) (C.2.2.2.2.1 _ hinst) (C.2.2.2.2.1 _ hini) C.2.2.2.2.2.1.2.1 h2 h3 hS C.hA hc hfs hk hs hd (fun q H1 hP1 hD1 hS1 => kk q (Wd.push h1 h2 hD1 hP1).2 H1 locs ls (Wd.push h1 h2 hD1 hP1).1 hS1 hL)
theorem V_newI (C : Cx p l s m args meth c cc nL own base D ct sa) {z : Int32} (N : Nat) (hw : Cond.arrayClass .int ∈ WL) (hz : ¬ z < 0) (hN : z.toNatClampNeg = N) (hb : N * componentBytes .int ≤ 536870912) (hk : k + 1 ≤ R.cells) (hs : n + N ≤ R.slots) (hd : decode cc pc = .ok (.newarray .int, 2)) (kk : ∀ q : Nat, M q = none → VV p l e R s m args below meth c nL base D Q (mput M q (.inl (ct 0, N, .inl (fun _ => 0)))) (k + 1) (n + N) (pc + 2) lv (.ref q :: st)) : VV p l e R s m args below meth c nL base D Q M k n pc lv (.int z :: st) := by
  intro H locs ls hW hS hL
  obtain ⟨L, f9, h1, h2, h3⟩ := id hW
  refine va_newa (atype := .int) (a0 := (N, .inl (fun _ => 0))) C.1 C.2.1 (C.2.2.2.2.1 _ hw) rfl C.2.2.2.2.2.1.2.1 h2 h3 hS C.hA (fun cA => rfl) hz hN hb hk hs hd (fun q cA H1 hK1 hP1 hD1 hS1 => ?_)
  have e1 : s.vm.findClass ("[" ++ (.int : FieldType).toString) = some cA := (hK1.2 6 _ rfl).2
  have e2 : s.vm.findClass ("[" ++ (.int : FieldType).toString) = some (ct 0) := (hK1.2 0 _ rfl).2
  have e3 : cA = ct 0 := Option.some.inj (e1.symm.trans e2)
  subst e3
  exact kk q (Wd.push h1 h2 hD1 hP1).2 H1 locs ls (Wd.push h1 h2 hD1 hP1).1 hS1 hL
theorem V_newZ (C : Cx p l s m args meth c cc nL own base D ct sa) {z : Int32} (N : Nat) (hw : Cond.arrayClass .boolean ∈ WL) (hz : ¬ z < 0) (hN : z.toNatClampNeg = N) (hb : N * componentBytes .boolean ≤ 536870912) (hk : k + 1 ≤ R.cells) (hs : n + N ≤ R.slots) (hd : decode cc pc = .ok (.newarray .boolean, 2)) (kk : ∀ q : Nat, M q = none → VV p l e R s m args below meth c nL base D Q (mput M q (.inl (ct 1, N, .inl (fun _ => 0)))) (k + 1) (n + N) (pc + 2) lv (.ref q :: st)) : VV p l e R s m args below meth c nL base D Q M k n pc lv (.int z :: st) := by
  intro H locs ls hW hS hL
  obtain ⟨L, f9, h1, h2, h3⟩ := id hW
  refine va_newa (atype := .boolean) (a0 := (N, .inl (fun _ => 0))) C.1 C.2.1 (C.2.2.2.2.1 _ hw) rfl C.2.2.2.2.2.1.2.1 h2 h3 hS C.hA (fun cA => rfl) hz hN hb hk hs hd (fun q cA H1 hK1 hP1 hD1 hS1 => ?_)
  have e1 : s.vm.findClass ("[" ++ (.boolean : FieldType).toString) = some cA := (hK1.2 6 _ rfl).2
  have e2 : s.vm.findClass ("[" ++ (.boolean : FieldType).toString) = some (ct 1) := (hK1.2 1 _ rfl).2
  have e3 : cA = ct 1 := Option.some.inj (e1.symm.trans e2)
  subst e3
  exact kk q (Wd.push h1 h2 hD1 hP1).2 H1 locs ls (Wd.push h1 h2 hD1 hP1).1 hS1 hL
theorem V_newJ (C : Cx p l s m args meth c cc nL own base D ct sa) {z : Int32} (N : Nat) (hw : Cond.arrayClass .long ∈ WL) (hz : ¬ z < 0) (hN : z.toNatClampNeg = N) (hb : N * componentBytes .long ≤ 536870912) (hk : k + 1 ≤ R.cells) (hs : n + N ≤ R.slots) (hd : decode cc pc = .ok (.newarray .long, 2)) (kk : ∀ q : Nat, M q = none → VV p l e R s m args below meth c nL base D Q (mput M q (.inl (ct 2, N, .inr (.inl (fun _ => 0))))) (k + 1) (n + N) (pc + 2) lv (.ref q :: st)) : VV p l e R s m args below meth c nL base D Q M k n pc lv (.int z :: st) := by
  intro H locs ls hW hS hL
  obtain ⟨L, f9, h1, h2, h3⟩ := id hW
  refine va_newa (atype := .long) (a0 := (N, .inr (.inl (fun _ => 0)))) C.1 C.2.1 (C.2.2.2.2.1 _ hw) rfl C.2.2.2.2.2.1.2.1 h2 h3 hS C.hA (fun cA => rfl) hz hN hb hk hs hd (fun q cA H1 hK1 hP1 hD1 hS1 => ?_)
  have e1 : s.vm.findClass ("[" ++ (.long : FieldType).toString) = some cA := (hK1.2 6 _ rfl).2
  have e2 : s.vm.findClass ("[" ++ (.long : FieldType).toString) = some (ct 2) := (hK1.2 2 _ rfl).2
  have e3 : cA = ct 2 := Option.some.inj (e1.symm.trans e2)
  subst e3
  exact kk q (Wd.push h1 h2 hD1 hP1).2 H1 locs ls (Wd.push h1 h2 hD1 hP1).1 hS1 hL
theorem V_newS (C : Cx p l s m args meth c cc nL own base D ct sa) {z : Int32} {index : Nat} (N : Nat) (hl : Cond.classLink own index RX1 ∈ WL) (hz : ¬ z < 0) (hN : z.toNatClampNeg = N) (hb : N * 4 ≤ 536870912) (hk : k + 1 ≤ R.cells) (hs : n + N ≤ R.slots) (hd : decode cc pc = .ok (.anewarray index, 3)) (kk : ∀ q : Nat, M q = none → VV p l e R s m args below meth c nL base D Q (mput M q (.inl (ct 3, N, .inr (.inr (.inr (.inr (fun _ => none))))))) (k + 1) (n + N) (pc + 3) lv (.ref q :: st)) : VV p l e R s m args below meth c nL base D Q M k n pc lv (.int z :: st) := by
  intro H locs ls hW hS hL
  obtain ⟨L, f9, h1, h2, h3⟩ := id hW
  refine va_newq C.1 C.2.1 C.2.2.2.1 (C.2.2.2.2.1 _ hl) C.2.2.2.2.2.1.2.2.2.2.2.2.2.1 C.2.2.2.2.2.1.2.1 h2 h3 hS C.hA hz hN hb hk hs hd (fun q cA H1 hK1 hP1 hD1 hS1 => ?_)
  obtain ⟨_, _, _, _, _, e1⟩ := (hK1.2 6 _ rfl).2
  obtain ⟨_, _, _, _, _, e2⟩ := (hK1.2 3 _ rfl).2
  have e3 : cA = ct 3 := Option.some.inj (e1.symm.trans e2)
  subst e3
  exact kk q (Wd.push h1 h2 hD1 hP1).2 H1 locs ls (Wd.push h1 h2 hD1 hP1).1 hS1 hL
theorem V_newT (C : Cx p l s m args meth c cc nL own base D ct sa) {z : Int32} {index : Nat} (N : Nat) (hl : Cond.classLink own index RX2 ∈ WL) (hz : ¬ z < 0) (hN : z.toNatClampNeg = N) (hb : N * 4 ≤ 536870912) (hk : k + 1 ≤ R.cells) (hs : n + N ≤ R.slots) (hd : decode cc pc = .ok (.anewarray index, 3)) (kk : ∀ q : Nat, M q = none → VV p l e R s m args below meth c nL base D Q (mput M q (.inl (ct 4, N, .inr (.inr (.inr (.inr (fun _ => none))))))) (k + 1) (n + N) (pc + 3) lv (.ref q :: st)) : VV p l e R s m args below meth c nL base D Q M k n pc lv (.int z :: st) := by
  intro H locs ls hW hS hL
  obtain ⟨L, f9, h1, h2, h3⟩ := id hW
  refine va_newq C.1 C.2.1 C.2.2.2.1 (C.2.2.2.2.1 _ hl) C.2.2.2.2.2.1.2.2.2.2.2.2.1 C.2.2.2.2.2.1.2.1 h2 h3 hS C.hA hz hN hb hk hs hd (fun q cA H1 hK1 hP1 hD1 hS1 => ?_)
  obtain ⟨_, _, _, _, _, e1⟩ := (hK1.2 6 _ rfl).2
  obtain ⟨_, _, _, _, _, e2⟩ := (hK1.2 4 _ rfl).2
  have e3 : cA = ct 4 := Option.some.inj (e1.symm.trans e2)
  subst e3
  exact kk q (Wd.push h1 h2 hD1 hP1).2 H1 locs ls (Wd.push h1 h2 hD1 hP1).1 hS1 hL
theorem V_objInit (C : Cx p l s m args meth c cc nL own base D ct sa) {a index : Nat} (hl : Cond.methodLink own index objectInit ∈ WL) (hi : Cond.instanceMethod objectInit ∈ WL) (hc : Cond.code objectInit ⟨#[0xb1]⟩ 1 none ∈ WL) (hd : decode cc pc = .ok (.invokespecial index, 3)) (hf : 1 ≤ R.frames) (hlo : 12 ≤ R.locals) (kk : VV p l e R s m args below meth c nL base D Q M k n (pc + 3) lv []) : VV p l e R s m args below meth c nL base D Q M k n pc lv ([.ref a]) := by
  intro H locs ls hW hS hL
  refine W.objInit C.1 C.2.1 C.2.2.2.1 (C.2.2.2.2.1 _ hl) (C.2.2.2.2.1 _ hi) (C.2.2.2.2.1 _ hc) rfl (by rw [C.2.2.1]; exact hL.1) rfl hd hf (by simpa [JFrame.monitorRoom] using hlo) ?_
  exact kk H locs ls hW hS hL
theorem V_mmax (C : Cx p l s m args meth c cc nL own base D ct sa) {x y : Int32} {index : Nat} (hl : Cond.methodLink own index Lib.Math.max.name ∈ WL) (hst : Cond.static Lib.Math.max.name ∈ WL) (hini : Cond.initialized "java/lang/Math" ∈ WL) (hc : Cond.code Lib.Math.max.name Lib.Math.max.code 2 (some .int) ∈ WL) (hf : 1 ≤ R.frames) (hlo : (st.map fun v => v.category).sum + 13 ≤ R.locals) (hk : k ≤ R.cells) (hs : n ≤ R.slots) (hd : decode cc pc = .ok (.invokestatic index, 3)) (kk : VV p l e R s m args below meth c nL base D Q M k n (pc + 3) lv (.int (if x < y then y else x) :: st)) : VV p l e R s m args below meth c nL base D Q M k n pc lv (.int y :: .int x :: st) := by
  intro H locs ls hW hS hL
  exact va_mmax C.1 C.2.1 (by rw [C.2.2.1]; exact hL.1.symm) C.2.2.2.1 (C.2.2.2.2.1 _ hl) (C.2.2.2.2.1 _ hst) (C.2.2.2.2.1 _ hini) (C.2.2.2.2.1 _ hc) hf hlo hk hs hd (kk H locs ls hW hS hL)
theorem V_mmin (C : Cx p l s m args meth c cc nL own base D ct sa) {x y : Int32} {index : Nat} (hl : Cond.methodLink own index Lib.Math.min.name ∈ WL) (hst : Cond.static Lib.Math.min.name ∈ WL) (hini : Cond.initialized "java/lang/Math" ∈ WL) (hc : Cond.code Lib.Math.min.name Lib.Math.min.code 2 (some .int) ∈ WL) (hf : 1 ≤ R.frames) (hlo : (st.map fun v => v.category).sum + 13 ≤ R.locals) (hk : k ≤ R.cells) (hs : n ≤ R.slots) (hd : decode cc pc = .ok (.invokestatic index, 3)) (kk : VV p l e R s m args below meth c nL base D Q M k n (pc + 3) lv (.int (if y < x then y else x) :: st)) : VV p l e R s m args below meth c nL base D Q M k n pc lv (.int y :: .int x :: st) := by
  intro H locs ls hW hS hL
  exact va_mmin C.1 C.2.1 (by rw [C.2.2.1]; exact hL.1.symm) C.2.2.2.1 (C.2.2.2.2.1 _ hl) (C.2.2.2.2.1 _ hst) (C.2.2.2.2.1 _ hini) (C.2.2.2.2.1 _ hc) hf hlo hk hs hd (kk H locs ls hW hS hL)
theorem V_copy (C : Cx p l s m args meth c cc nL own base D ct sa) {a b N0 N1 index : Nat} {f g : Nat → Int32} {sp dp z : Int32} (ha : M a = some (.inl (ct 0, N0, .inl f))) (hb : M b = some (.inl (ct 0, N1, .inl g))) (hl : Cond.methodLink own index arraycopyName ∈ WL) (hnat : Cond.native arraycopyName ∈ WL) (hst : Cond.static arraycopyName ∈ WL) (hini : Cond.initialized "java/lang/System" ∈ WL) (h1 : ¬ sp < 0) (h2 : ¬ dp < 0) (h3 : ¬ z < 0) (h4 : sp.toNatClampNeg + z.toNatClampNeg ≤ N0) (h5 : dp.toNatClampNeg + z.toNatClampNeg ≤ N1) (hf : 1 ≤ R.frames) (hlo : (st.map fun v => v.category).sum + (nativeFrameWords "java/lang/System" "arraycopy" 5 + 11) ≤ R.locals) (hd : decode cc pc = .ok (.invokestatic index, 3)) (kk : VV p l e R s m args below meth c nL base D Q (mput M b (.inl (ct 0, N1, .inl (va_cpy f g sp.toNatClampNeg dp.toNatClampNeg z.toNatClampNeg)))) k n (pc + 3) lv st) : VV p l e R s m args below meth c nL base D Q M k n pc lv (.int z :: .int dp :: .ref b :: .int sp :: .ref a :: st) := by
  intro H locs ls hW hS hL
  obtain ⟨L, f9, g1, g2, g3⟩ := id hW
  obtain ⟨q0, hq0⟩ := pl_at (g1 a _ ha)
  obtain ⟨q1, hq1⟩ := pl_at (g1 b _ hb)
  exact va_copyi C.1 C.2.1 (by rw [C.2.2.1]; exact hL.1.symm) C.2.2.2.1 (C.2.2.2.2.1 _ hl) (C.2.2.2.2.1 _ hnat) (C.2.2.2.2.1 _ hst) (C.2.2.2.2.1 _ hini) C.2.2.2.2.2.1.2.1 g2 g3 hS q0 q1 0 0 (ty := .int) hq0 hq1 rfl rfl rfl h1 h2 h3 h4 h5 (fun _ _ => rfl) hf hlo hd (fun H1 locs1 hP1 hD1 hS1 => kk H1 locs1 ls (Wd.set g1 g3 hb hq1 hP1 hD1) hS1 hL)
end
end
section
/-! calls, returns, throws, bodies -/
/-- the words of a call: invokevirtual, invokestatic, invokespecial <init> -/
def WV (own : String) (idx : Nat) (Cn : String) (y : MethodName) (bytes : ByteArray) (maxL : Nat) (ret : Option FieldType) (np : Nat) : Prop :=
  ((Cond.methodLink own idx y ∈ WL ∧ Cond.instanceMethod y ∈ WL) ∧ Cond.selects Cn y y ∈ WL ∧ Cond.initialized Cn ∈ WL ∧ Cond.code y bytes maxL ret ∈ WL) ∧ (y.cls = Cn ∧ y.cls ≠ "java/lang/invoke/MethodHandle" ∧ y.cls ≠ "java/lang/invoke/VarHandle" ∧ (parseMethodDescriptor y.desc).map (fun d => d.parameters.length) = some np)
def WS (own : String) (idx : Nat) (y : MethodName) (bytes : ByteArray) (maxL : Nat) (ret : Option FieldType) (np : Nat) : Prop :=
  (Cond.methodLink own idx y ∈ WL ∧ Cond.static y ∈ WL ∧ Cond.initialized own ∈ WL ∧ Cond.code y bytes maxL ret ∈ WL) ∧ (y.cls = own ∧ y.cls ≠ "java/lang/invoke/MethodHandle" ∧ y.cls ≠ "java/lang/invoke/VarHandle" ∧ (parseMethodDescriptor y.desc).map (fun d => d.parameters.length) = some np)
def WI (own : String) (idx : Nat) (y : MethodName) (bytes : ByteArray) (maxL : Nat) (np : Nat) : Prop :=
  (Cond.methodLink own idx y ∈ WL ∧ Cond.instanceMethod y ∈ WL ∧ Cond.initialized y.cls ∈ WL ∧ Cond.code y bytes maxL none ∈ WL) ∧ y.name = "<init>" ∧ (y.cls ≠ "java/lang/invoke/MethodHandle" ∧ y.cls ≠ "java/lang/invoke/VarHandle" ∧ (parseMethodDescriptor y.desc).map (fun d => d.parameters.length) = some np)
theorem good_WL {c : Cond} (h : c ∈ WL) {L : List Cond} (hL : ∀ w ∈ L, w ∈ WL) : GoodIn WL (L ++ (c :: WL)) := fun w hw => by
  have : w ∈ WL := by
    rcases List.mem_append.mp hw with hw | hw
    · exact hL w hw
    · rcases List.mem_cons.mp hw with rfl | hw
      · exact h
      · exact hw
  exact ⟨this, good_of_word (WL_good this)⟩
section
variable {p : Program} {l : Launch} {e : Env} {R : Room} {s : State} {m : MethodId} {args : Array Value} {below : List Frame} {meth : Method} {c : Code} {cc : ByteArray} {nL base : Nat} {own : String} {D : va_G} {ct : Nat → ClassId} {sa : Nat → Nat} {Q : State → Prop} {M : Mem} {k n pc : Nat} {lv : List (Nat × Value)} {st : List Value}
/-- the callee's start holds here -/
theorem PreG.here (C : Cx p l s m args meth c cc nL own base D ct sa) {H : Heap} {locs : List Loc} (hW : Wd base D M H) (hS : va_S (Ab base) s.heap H locs) (av : List Value) : ∀ U : State, U.heap = H → s.WarmedH U.vm → PreG base D ct sa M av av.toArray U := by
  intro U hU hv
  subst hU
  exact ⟨rfl, C.2.2.2.2.2.1.moved hv hS, hW⟩
/-- what comes of a run that may throw -/
theorem VV.run {mc ms : Nat} {H : Heap} {locs : List Loc} {ls : Array Slot} {st0 : List Value} {a : Array Value} {post : Option Value → Mem → Prop} {px : String → Mem → Prop} (hr : vx_Run p l e R s m args below meth c H locs k n mc ms (F0 m pc ls st0) st (PQ base D post a) (PX base D px) (Ab base)) (hS : va_S (Ab base) s.heap H locs) (hL : lv_has ls nL lv)
    (kx : ∀ (E : String) (M' : Mem) (ce : Cell) (q9 : Addr) (H1 : Heap) (locs1 : List Loc), px E M' → Wd base D M' H1 → va_S (Ab base) s.heap H1 locs1 → H1[q9]? = some ce → ce.vm = .none → s.vm.findClass E = some ce.cls → vx_W p l e R s m args below meth c H1 locs1 (k + mc) (n + ms) Q (F0 m pc ls st) q9)
    (kk : ∀ (v : Option Value) (M' : Mem), post v M' → VV p l e R s m args below meth c nL base D Q M' (k + mc) (n + ms) (pc + 3) lv (v.toList ++ st)) : W p l e R s m args below meth c H locs k n Q (F0 m pc ls st0) := by
  intro T hT X
  rcases hr T hT X with ⟨v, st₀, t, T', L, h0, X', hL', e1, e2, ⟨⟨v', M', hv, hp, hb⟩, hF⟩, st'⟩ | ⟨q, st₀, t, T', L, E, ce, h0, X', hL', e1, e2, ⟨M', hp, hb, hF⟩, hce, hcv, hcl, st'⟩
  · cases hv
    obtain ⟨k1, k2, k3⟩ := vx_keep h0 e1 hS (fun q _ h => h) (fun q h => h) hL' hF
    obtain ⟨t2, a1, b1⟩ := kk v M' hp T'.heap (locs ++ L) ls (by rw [e1]; exact hb) k3 hL T' rfl X'
    exact ⟨t2, st' t2 a1, b1⟩
  · obtain ⟨k1, k2, k3⟩ := vx_keep h0 e1 hS (fun q _ h => h) (fun q h => h) hL' hF
    obtain ⟨t2, a1, b1⟩ := kx E M' ce q T'.heap (locs ++ L) hp (by rw [e1]; exact hb) k3 (by rw [e1]; exact hce) hcv hcl T' rfl X'
    exact ⟨t2, st'.trans a1, b1⟩
/-- .. that doesn't throw -/
theorem VV.runM {mc ms : Nat} {H : Heap} {locs : List Loc} {ls : Array Slot} {st0 : List Value} {a : Array Value} {post : Option Value → Mem → Prop} (hr : va_Run p l e R s m args below meth c H locs k n mc ms (F0 m pc ls st0) st (PQ base D post a) (Ab base)) (hS : va_S (Ab base) s.heap H locs) (hL : lv_has ls nL lv)
    (kk : ∀ (v : Option Value) (M' : Mem), post v M' → VV p l e R s m args below meth c nL base D Q M' (k + mc) (n + ms) (pc + 3) lv (v.toList ++ st)) : W p l e R s m args below meth c H locs k n Q (F0 m pc ls st0) := by
  intro T hT X
  obtain ⟨v, st₀, t, T', L, h0, X', hL', e1, e2, ⟨⟨v', M', hv, hp, hb⟩, hF⟩, st'⟩ := hr T hT X
  cases hv
  obtain ⟨k1, k2, k3⟩ := vx_keep h0 e1 hS (fun q _ h => h) (fun q h => h) hL' hF
  obtain ⟨t2, a1, b1⟩ := kk v M' hp T'.heap (locs ++ L) ls (by rw [e1]; exact hb) k3 hL T' rfl X'
  exact ⟨t2, st' t2 a1, b1⟩
theorem catF {m : MethodId} {pc : Nat} {ls : Array Slot} {st0 st : List Value} (h : (st.map fun v => v.category).sum ≤ 8) : 2 * (F0 m pc ls st0).monitorRoom + (st.map fun v => v.category).sum ≤ 8 := by
  have : (F0 m pc ls st0).monitorRoom = 0 := rfl
  rw [this]; omega
/-- invokevirtual, in general: what is thrown goes on by kx -/
theorem V_callVx (C : Cx p l s m args meth c cc nL own base D ct sa) {idx np maxL b ci : Nat} {Cn : String} {y : MethodName} {bytes : ByteArray} {ret : Option FieldType} {rm : Room} {As : List Value} {fs : List Value} {T : u_T} {N : Nat} {post : Option Value → Mem → Prop} {px : String → Mem → Prop}
    (hM : CT l y (.code y bytes maxL ret :: WL) rm base D ct sa M (.ref b :: As) post px) (w : WV own idx Cn y bytes maxL ret np) (hb : M b = some (.inr (ci, fs))) (hci : clG[ci]? = some (Cn, T, N)) (hn : As.length = np) (hR : rm.frames + 1 ≤ R.frames ∧ 8 + (maxL + 11) + rm.locals ≤ R.locals) (hcat : (st.map fun v => v.category).sum ≤ 8) (hf : k + rm.cells ≤ R.cells ∧ n + rm.slots ≤ R.slots) (hd : decode cc pc = .ok (.invokevirtual idx, 3))
    (kx : ∀ (ls : Array Slot), lv_has ls nL lv → ∀ (E : String) (M' : Mem) (ce : Cell) (q9 : Addr) (H1 : Heap) (locs1 : List Loc), px E M' → Wd base D M' H1 → va_S (Ab base) s.heap H1 locs1 → H1[q9]? = some ce → ce.vm = .none → s.vm.findClass E = some ce.cls → vx_W p l e R s m args below meth c H1 locs1 (k + rm.cells) (n + rm.slots) Q (F0 m pc ls st) q9)
    (kk : ∀ (v : Option Value) (M' : Mem), post v M' → VV p l e R s m args below meth c nL base D Q M' (k + rm.cells) (n + rm.slots) (pc + 3) lv (v.toList ++ st)) : VV p l e R s m args below meth c nL base D Q M k n pc lv (As.reverse ++ .ref b :: st) := by
  intro H locs ls hW hS hL
  obtain ⟨L, f9, h1, h2, h3⟩ := id hW
  obtain ⟨q0, hq⟩ := pl_at (h1 b _ hb)
  obtain ⟨⟨⟨w1, w2⟩, w3, w4, w5⟩, w6⟩ := w
  have hG : GoodIn WL (wsV own idx Cn y (.code y bytes maxL ret :: WL)) := good_WL w5 (fun w hw => by
    simp only [List.mem_cons, List.not_mem_nil, or_false] at hw
    rcases hw with rfl | rfl | rfl | rfl
    · exact w1
    · exact w2
    · exact w3
    · exact w4)
  have cw := cwV (R := R) (s := s) (args := args) (rm := rm) np C.2.2.2.2.1 hG rfl rfl rfl w6 hR
  exact VV.run (vx_runV (Ts := WL) (b := b) (As := As) ⟨C.1, C.2.1, C.2.2.1, C.2.2.2.1, C.2.2.2.2.1⟩ hM cw ⟨PreG.blind, va_recv C.2.2.2.2.2.1.2.1 h2 hci hq, PreG.here C hW hS _⟩ rfl hn hL.1 rfl (catF hcat) hd hf) hS hL (kx ls hL) kk
theorem V_callSx (C : Cx p l s m args meth c cc nL own base D ct sa) {idx np maxL : Nat} {y : MethodName} {bytes : ByteArray} {ret : Option FieldType} {rm : Room} {As : List Value} {post : Option Value → Mem → Prop} {px : String → Mem → Prop}
    (hM : CT l y (.code y bytes maxL ret :: WL) rm base D ct sa M As post px) (w : WS own idx y bytes maxL ret np) (hn : As.length = np) (hR : rm.frames + 1 ≤ R.frames ∧ 8 + (maxL + 11) + rm.locals ≤ R.locals) (hcat : (st.map fun v => v.category).sum ≤ 8) (hf : k + rm.cells ≤ R.cells ∧ n + rm.slots ≤ R.slots) (hd : decode cc pc = .ok (.invokestatic idx, 3))
    (kx : ∀ (ls : Array Slot), lv_has ls nL lv → ∀ (E : String) (M' : Mem) (ce : Cell) (q9 : Addr) (H1 : Heap) (locs1 : List Loc), px E M' → Wd base D M' H1 → va_S (Ab base) s.heap H1 locs1 → H1[q9]? = some ce → ce.vm = .none → s.vm.findClass E = some ce.cls → vx_W p l e R s m args below meth c H1 locs1 (k + rm.cells) (n + rm.slots) Q (F0 m pc ls st) q9)
    (kk : ∀ (v : Option Value) (M' : Mem), post v M' → VV p l e R s m args below meth c nL base D Q M' (k + rm.cells) (n + rm.slots) (pc + 3) lv (v.toList ++ st)) : VV p l e R s m args below meth c nL base D Q M k n pc lv (As.reverse ++ st) := by
  intro H locs ls hW hS hL
  obtain ⟨⟨w1, w2, w4, w5⟩, w6⟩ := w
  have hG : GoodIn WL (wsS own idx y (.code y bytes maxL ret :: WL)) := good_WL w5 (fun w hw => by
    simp only [List.mem_cons, List.not_mem_nil, or_false] at hw
    rcases hw with rfl | rfl | rfl
    · exact w1
    · exact w2
    · exact w4)
  have cw := cwS (R := R) (s := s) (args := args) (rm := rm) np C.2.2.2.2.1 hG rfl rfl rfl w6 hR
  exact VV.run (vx_runS (Ts := WL) (As := As) ⟨C.1, C.2.1, C.2.2.1, C.2.2.2.1, C.2.2.2.2.1⟩ hM cw ⟨PreG.blind, PreG.here C hW hS _⟩ rfl hn hL.1 rfl (catF hcat) hd hf) hS hL (kx ls hL) kk
/-- a constructor -/
theorem V_callI (C : Cx p l s m args meth c cc nL own base D ct sa) {idx np maxL b : Nat} {y : MethodName} {bytes : ByteArray} {rm : Room} {As : List Value} {post : Option Value → Mem → Prop}
    (hM : CM l y (.code y bytes maxL none :: WL) rm base D ct sa M (.ref b :: As) post) (w : WI own idx y bytes maxL np) (hn : As.length = np) (hR : rm.frames + 1 ≤ R.frames ∧ 8 + (maxL + 11) + rm.locals ≤ R.locals) (hcat : (st.map fun v => v.category).sum ≤ 8) (hf : k + rm.cells ≤ R.cells ∧ n + rm.slots ≤ R.slots) (hd : decode cc pc = .ok (.invokespecial idx, 3))
    (kk : ∀ (v : Option Value) (M' : Mem), post v M' → VV p l e R s m args below meth c nL base D Q M' (k + rm.cells) (n + rm.slots) (pc + 3) lv (v.toList ++ st)) : VV p l e R s m args below meth c nL base D Q M k n pc lv (As.reverse ++ .ref b :: st) := by
  intro H locs ls hW hS hL
  obtain ⟨⟨w1, w2, w4, w5⟩, w6, w7⟩ := w
  have hG : GoodIn WL (.code y bytes maxL none :: WL) := good_WL (L := []) w5 (fun w hw => by cases hw)
  have cw := cwI (R := R) (s := s) (args := args) (rm := rm) np C.2.2.2.2.1 hG rfl rfl rfl (C.2.2.2.2.1 _ w4) (C.2.2.2.2.1 _ w1) (C.2.2.2.2.1 _ w2) w6 w7 hR
  exact VV.runM (va_runI (Ts := WL) (b := b) (As := As) ⟨C.1, C.2.1, C.2.2.1, C.2.2.2.1, C.2.2.2.2.1⟩ hM cw ⟨PreG.blind, PreG.here C hW hS _⟩ rfl hn hL.1 rfl (catF hcat) hd hf) hS hL kk
/-- the body's end -/
abbrev QB (base : Nat) (D : va_G) (post : Option Value → Mem → Prop) (px : String → Mem → Prop) (below : List Frame) (args : Array Value) (s : State) (mc ms : Nat) : State → Prop := vx_MQ below (PQ base D post) (PX base D px) args s mc ms (Ab base)
variable {post : Option Value → Mem → Prop} {px : String → Mem → Prop} {mc ms : Nat}
/-- invokevirtual in a body without handlers: what is thrown goes on -/
theorem V_callV (C : Cx p l s m args meth c cc nL own base D ct sa) (hx : ∀ x ∈ c.exceptionTable.toList, False) {idx np maxL b ci : Nat} {Cn : String} {y : MethodName} {bytes : ByteArray} {ret : Option FieldType} {rm : Room} {As : List Value} {fs : List Value} {T : u_T} {N : Nat} {post' : Option Value → Mem → Prop} {px' : String → Mem → Prop}
    (hM : CT l y (.code y bytes maxL ret :: WL) rm base D ct sa M (.ref b :: As) post' px') (w : WV own idx Cn y bytes maxL ret np) (hb : M b = some (.inr (ci, fs))) (hci : clG[ci]? = some (Cn, T, N)) (hn : As.length = np) (hR : rm.frames + 1 ≤ R.frames ∧ 8 + (maxL + 11) + rm.locals ≤ R.locals) (hcat : (st.map fun v => v.category).sum ≤ 8) (hf : k + rm.cells ≤ R.cells ∧ n + rm.slots ≤ R.slots) (hd : decode cc pc = .ok (.invokevirtual idx, 3))
    (hc : k + rm.cells ≤ mc) (hs : n + rm.slots ≤ ms) (kx : ∀ E M', px' E M' → px E M')
    (kk : ∀ (v : Option Value) (M' : Mem), post' v M' → VV p l e R s m args below meth c nL base D (QB base D post px below args s mc ms) M' (k + rm.cells) (n + rm.slots) (pc + 3) lv (v.toList ++ st)) : VV p l e R s m args below meth c nL base D (QB base D post px below args s mc ms) M k n pc lv (As.reverse ++ .ref b :: st) :=
  V_callVx C hM w hb hci hn hR hcat hf hd (fun ls hL E M' ce q9 H1 locs1 h1 h2 h3 h4 h5 h6 => vx_out (fun x hx9 => (hx x hx9).elim) C.2.2.2.2.2.2.1 h4 h5 h6 (fun t ht _ => ⟨M', kx E M' h1, by rw [ht]; exact h2, h3.F ht⟩) h3.2.2 hc hs) kk
theorem V_callS (C : Cx p l s m args meth c cc nL own base D ct sa) (hx : ∀ x ∈ c.exceptionTable.toList, False) {idx np maxL : Nat} {y : MethodName} {bytes : ByteArray} {ret : Option FieldType} {rm : Room} {As : List Value} {post' : Option Value → Mem → Prop} {px' : String → Mem → Prop}
    (hM : CT l y (.code y bytes maxL ret :: WL) rm base D ct sa M As post' px') (w : WS own idx y bytes maxL ret np) (hn : As.length = np) (hR : rm.frames + 1 ≤ R.frames ∧ 8 + (maxL + 11) + rm.locals ≤ R.locals) (hcat : (st.map fun v => v.category).sum ≤ 8) (hf : k + rm.cells ≤ R.cells ∧ n + rm.slots ≤ R.slots) (hd : decode cc pc = .ok (.invokestatic idx, 3))
    (hc : k + rm.cells ≤ mc) (hs : n + rm.slots ≤ ms) (kx : ∀ E M', px' E M' → px E M')
    (kk : ∀ (v : Option Value) (M' : Mem), post' v M' → VV p l e R s m args below meth c nL base D (QB base D post px below args s mc ms) M' (k + rm.cells) (n + rm.slots) (pc + 3) lv (v.toList ++ st)) : VV p l e R s m args below meth c nL base D (QB base D post px below args s mc ms) M k n pc lv (As.reverse ++ st) :=
  V_callSx C hM w hn hR hcat hf hd (fun ls hL E M' ce q9 H1 locs1 h1 h2 h3 h4 h5 h6 => vx_out (fun x hx9 => (hx x hx9).elim) C.2.2.2.2.2.2.1 h4 h5 h6 (fun t ht _ => ⟨M', kx E M' h1, by rw [ht]; exact h2, h3.F ht⟩) h3.2.2 hc hs) kk
theorem V_iret (C : Cx p l s m args meth c cc nL own base D ct sa) {v : Int32} (hr : meth.sig.returnType = some .int) (hc : k ≤ mc) (hs : n ≤ ms) (hd : decode cc pc = .ok (.ireturn, 1)) (hp : post (some (.int v)) M) : VV p l e R s m args below meth c nL base D (QB base D post px below args s mc ms) M k n pc lv [.int v] := by
  intro H locs ls hW hS hL
  refine vx_ret (W.widen hc hs ?_)
  exact W.iret C.1 C.2.1 hr (fun t ht _ => ⟨⟨_, M, rfl, hp, by rw [ht]; exact hW⟩, hS.F ht⟩) hS.2.2 hd C.2.2.2.2.2.2.1
theorem V_zret (C : Cx p l s m args meth c cc nL own base D ct sa) {v : Int32} (hr : meth.sig.returnType = some .boolean) (hb : narrow .boolean (.int v) = .int v) (hc : k ≤ mc) (hs : n ≤ ms) (hd : decode cc pc = .ok (.ireturn, 1)) (hp : post (some (.int v)) M) : VV p l e R s m args below meth c nL base D (QB base D post px below args s mc ms) M k n pc lv [.int v] := by
  intro H locs ls hW hS hL
  refine vx_ret (W.widen hc hs ?_)
  exact W.zret C.1 C.2.1 hr hb (fun t ht _ => ⟨⟨_, M, rfl, hp, by rw [ht]; exact hW⟩, hS.F ht⟩) hS.2.2 hd C.2.2.2.2.2.2.1
theorem V_vret (C : Cx p l s m args meth c cc nL own base D ct sa) (hr : meth.sig.returnType = none) (hc : k ≤ mc) (hs : n ≤ ms) (hd : decode cc pc = .ok (.return_, 1)) (hp : post none M) : VV p l e R s m args below meth c nL base D (QB base D post px below args s mc ms) M k n pc lv [] := by
  intro H locs ls hW hS hL
  refine vx_ret (W.widen hc hs ?_)
  exact W.vret C.1 C.2.1 hr (fun t ht _ => ⟨⟨_, M, rfl, hp, by rw [ht]; exact hW⟩, hS.F ht⟩) hS.2.2 hd C.2.2.2.2.2.2.1
theorem V_aret (C : Cx p l s m args meth c cc nL own base D ct sa) {v : Value} {cn : String} (hr : meth.sig.returnType = some (.object cn)) (hv : v = .null ∨ ∃ a, v = .ref a) (hc : k ≤ mc) (hs : n ≤ ms) (hd : decode cc pc = .ok (.areturn, 1)) (hp : post (some v) M) : VV p l e R s m args below meth c nL base D (QB base D post px below args s mc ms) M k n pc lv [v] := by
  intro H locs ls hW hS hL
  refine vx_ret (W.widen hc hs ?_)
  exact W.aret C.1 C.2.1 hr (Or.inl ⟨_, rfl⟩) hv (fun t ht _ => ⟨⟨_, M, rfl, hp, by rw [ht]; exact hW⟩, hS.F ht⟩) hS.2.2 hd C.2.2.2.2.2.2.1
/-- a constructor's end -/
theorem V_vretM (C : Cx p l s m args meth c cc nL own base D ct sa) (hr : meth.sig.returnType = none) (hc : k ≤ mc) (hs : n ≤ ms) (hd : decode cc pc = .ok (.return_, 1)) (hp : post none M) : VV p l e R s m args below meth c nL base D (MQ below (PQ base D post) args s mc ms (Ab base)) M k n pc lv [] := by
  intro H locs ls hW hS hL
  refine W.widen hc hs ?_
  exact W.vret C.1 C.2.1 hr (fun t ht _ => ⟨⟨_, M, rfl, hp, by rw [ht]; exact hW⟩, hS.F ht⟩) hS.2.2 hd C.2.2.2.2.2.2.1
/-- throw new E("text") out of a body without handlers -/
theorem V_throw (C : Cx p l s m args meth c cc nL own base D ct sa) (hx : ∀ x ∈ c.exceptionTable.toList, False) (hown : own = RX3) {E tx : String} {ik is ic : Nat} (hE : Bundle.fit E = true) (hk : Cond.classLink RX3 ik E ∈ WL) (hini : Cond.initialized E ∈ WL) (htx : (is, tx) ∈ strG)
    (hat : ∀ w ∈ vx_atS RX3 ic E ["java/lang/RuntimeException", "java/lang/Exception"], w ∈ WL ∨ w ∈ NGl) (hg : ∀ w ∈ Cond.classLink RX3 ik E :: Cond.initialized E :: vx_atS RX3 ic E ["java/lang/RuntimeException", "java/lang/Exception"], vx_ot w = true)
    (d0 : decode cc pc = .ok (.new ik, 3)) (d3 : decode cc (pc + 3) = .ok (.dup, 1)) (d4 : decode cc (pc + 4) = .ok (.ldc is, 2)) (d6 : decode cc (pc + 6) = .ok (.invokespecial ic, 3)) (d9 : decode cc (pc + 9) = .ok (.athrow, 1))
    (hF : 5 < R.frames) (hLo : (st.map fun v => v.category).sum + 82 ≤ R.locals) (hk1 : k + 1 ≤ R.cells) (hs1 : n + 6 ≤ R.slots) (hc : k + 1 ≤ mc) (hs : n + 6 ≤ ms) (hp : px E M) : VV p l e R s m args below meth c nL base D (QB base D post px below args s mc ms) M k n pc lv st := by
  intro H locs ls hW hS hL
  subst hown
  obtain ⟨e1, e2, e3, e4, e5, ⟨g1, g2, ⟨g3, g3'⟩, g4, g5, g6, g7⟩, e7, e8⟩ := C
  refine vx_throwS e1 e2 e8 (names := ["java/lang/RuntimeException", "java/lang/Exception"]) (A := Ab base) e4 hE (by decide +kernel) (e5 _ hk) (e5 _ hini) (g5 _ htx) (fun w hw => ?_) hg g3 g3' hS (hL.1.trans e3.symm) d0 d3 d4 d6 d9 (fun x h => (hx x h).elim) hF hLo hk1 hs1 e7 (fun t ht h1 h2 => ?_) hS.2.2 hc hs
  · rcases hat w hw with h | h
    · exact e5 _ h
    · exact va_Nw.use (NGl_on w h) (g4 w h)
  · refine ⟨M, hp, ?_, ?_⟩
    · obtain ⟨L, f, q1, q2, q3⟩ := hW
      exact ⟨L, f, q1, q2.kept (fun j q hq => h2 q.1 (q2 j q hq).lt), q3⟩
    · exact ⟨Nat.le_trans hS.1 h1, fun q hq hA => by rw [h2 q (Nat.lt_of_lt_of_le hq hS.1)]; exact hS.2.1 q hq hA⟩
end
/-- a contract out of its body -/
theorem CT.of {l : Launch} {y : MethodName} {cc : ByteArray} {nL : Nat} {ret : Option FieldType} {rm : Room} {base : Nat} {D : va_G} {ct : Nat → ClassId} {sa : Nat → Nat} {M : Mem} {av : List Value} {post : Option Value → Mem → Prop} {px : String → Mem → Prop} (hl : l.stackTraces = false) (hy : plainName y.cls = true) (hlen : (lg_sl av).length ≤ nL)
    (body : ∀ p e s m below meth c, Cx p l s m av.toArray meth c cc nL y.cls base D ct sa → meth.sig.returnType = ret → (∀ x ∈ c.exceptionTable.toList, False) → VV p l e rm s m av.toArray below meth c nL base D (QB base D post px below av.toArray s rm.cells rm.slots) M 0 0 0 (lv_args 0 av) []) :
    CT l y (.code y cc nL ret :: WL) rm base D ct sa M av post px := by
  refine vx_ofW (cc := cc) (maxL := nL) (ret := ret) hy rfl ?_
  intro p e s m args below meth c s₁ B hml ht hv
  obtain ⟨rfl, hE, hW⟩ := hv
  have hts := atoms_spec (ws := .code y cc nL ret :: WL) B.pre
  have hown : s.vm.findClass y.cls = some m.cls := findClass_of_methodNamed B.named
  have K := body p e s m below meth c ⟨B.exec, B.bytes, hml, hown, fun w hw => hts w (List.mem_cons_of_mem _ hw), hE, B.notSynchronized, hl⟩ B.returns ht
  have hl9 := lv_entry av (n := nL) hlen
  rw [lg_entry_eq]
  exact K s.heap [] _ hW va_S.rf hl9
theorem CM.of {l : Launch} {y : MethodName} {cc : ByteArray} {nL : Nat} {rm : Room} {base : Nat} {D : va_G} {ct : Nat → ClassId} {sa : Nat → Nat} {M : Mem} {av : List Value} {post : Option Value → Mem → Prop} (hl : l.stackTraces = false) (hy : plainName y.cls = true) (hlen : (lg_sl av).length ≤ nL)
    (body : ∀ p e s m below meth c, Cx p l s m av.toArray meth c cc nL y.cls base D ct sa → meth.sig.returnType = none → meth.name = y.name → VV p l e rm s m av.toArray below meth c nL base D (MQ below (PQ base D post) av.toArray s rm.cells rm.slots (Ab base)) M 0 0 0 (lv_args 0 av) []) :
    CM l y (.code y cc nL none :: WL) rm base D ct sa M av post := by
  refine Met.ofW (cc := cc) (maxL := nL) (ret := none) hy rfl ?_
  intro p e s m args below meth c s₁ B hml hv
  obtain ⟨rfl, hE, hW⟩ := hv
  have hts := atoms_spec (ws := .code y cc nL none :: WL) B.pre
  have hown : s.vm.findClass y.cls = some m.cls := findClass_of_methodNamed B.named
  have K := body p e s m below meth c ⟨B.exec, B.bytes, hml, hown, fun w hw => hts w (List.mem_cons_of_mem _ hw), hE, B.notSynchronized, hl⟩ B.returns (name_of_methodNamed B.named B.method).1
  have hl9 := lv_entry av (n := nL) hlen
  rw [lg_entry_eq]
  exact K s.heap [] _ hW va_S.rf hl9
end
section
set_option maxRecDepth 20000 in
theorem wu_X0 : ∀ w ∈ u_ws RX0 TX0 5, w ∈ WL := by decide +kernel
theorem in_X0 : Cond.instantiable RX0 5 ∈ WL := WL_of 352 (by decide +kernel) (by decide +kernel)
theorem ini_X0 : Cond.initialized RX0 ∈ WL := WL_of 31 (by decide +kernel) (by decide +kernel)
set_option maxRecDepth 20000 in
theorem wu_X1 : ∀ w ∈ u_ws RX1 TX1 6, w ∈ WL := by decide +kernel
theorem in_X1 : Cond.instantiable RX1 6 ∈ WL := WL_of 47 (by decide +kernel) (by decide +kernel)
theorem ini_X1 : Cond.initialized RX1 ∈ WL := WL_of 20 (by decide +kernel) (by decide +kernel)
set_option maxRecDepth 20000 in
theorem wu_X2 : ∀ w ∈ u_ws RX2 TX2 5, w ∈ WL := by decide +kernel
theorem in_X2 : Cond.instantiable RX2 5 ∈ WL := WL_of 245 (by decide +kernel) (by decide +kernel)
theorem ini_X2 : Cond.initialized RX2 ∈ WL := WL_of 26 (by decide +kernel) (by decide +kernel)
set_option maxRecDepth 20000 in
theorem wu_X3 : ∀ w ∈ u_ws RX3 TX3 10, w ∈ WL := by decide +kernel
theorem in_X3 : Cond.instantiable RX3 10 ∈ WL := WL_of 34 (by decide +kernel) (by decide +kernel)
theorem ini_X3 : Cond.initialized RX3 ∈ WL := WL_of 19 (by decide +kernel) (by decide +kernel)
set_option maxRecDepth 20000 in
theorem wu_X4 : ∀ w ∈ u_ws RX4 TX4 21, w ∈ WL := by decide +kernel
theorem in_X4 : Cond.instantiable RX4 21 ∈ WL := WL_of 430 (by decide +kernel) (by decide +kernel)
theorem ini_X4 : Cond.initialized RX4 ∈ WL := WL_of 21 (by decide +kernel) (by decide +kernel)
theorem ini_L : Cond.initialized RL ∈ WL := WL_of 18 (by decide +kernel) (by decide +kernel)
theorem ac_int : Cond.arrayClass .int ∈ WL := WL_of 78 (by decide +kernel) (by decide +kernel)
theorem ac_boolean : Cond.arrayClass .boolean ∈ WL := WL_of 499 (by decide +kernel) (by decide +kernel)
theorem ac_long : Cond.arrayClass .long ∈ WL := WL_of 586 (by decide +kernel) (by decide +kernel)
theorem im_oi : Cond.instanceMethod objectInit ∈ WL := WL_of 39 (by decide +kernel) (by decide +kernel)
theorem co_oi : Cond.code objectInit ⟨#[0xb1]⟩ 1 none ∈ WL := WL_of 40 (by decide +kernel) (by decide +kernel)
theorem st_max : Cond.static Lib.Math.max.name ∈ WL := WL_of 390 (by decide +kernel) (by decide +kernel)
theorem co_max : Cond.code Lib.Math.max.name Lib.Math.max.code 2 (some .int) ∈ WL := WL_of 391 (by decide +kernel) (by decide +kernel)
theorem st_min : Cond.static Lib.Math.min.name ∈ WL := WL_of 131 (by decide +kernel) (by decide +kernel)
theorem co_min : Cond.code Lib.Math.min.name Lib.Math.min.code 2 (some .int) ∈ WL := WL_of 132 (by decide +kernel) (by decide +kernel)
theorem ini_Math : Cond.initialized "java/lang/Math" ∈ WL := WL_of 27 (by decide +kernel) (by decide +kernel)
theorem na_copy : Cond.native arraycopyName ∈ WL := WL_of 151 (by decide +kernel) (by decide +kernel)
theorem st_copy : Cond.static arraycopyName ∈ WL := WL_of 150 (by decide +kernel) (by decide +kernel)
theorem ini_Sys : Cond.initialized "java/lang/System" ∈ WL := WL_of 32 (by decide +kernel) (by decide +kernel)
theorem co_X0_init : Cond.code yX0_init cX0_init 4 none ∈ WL := WL_of 355 (by decide +kernel) (by decide +kernel)
theorem im_X0_init : Cond.instanceMethod yX0_init ∈ WL := WL_of 354 (by decide +kernel) (by decide +kernel)
theorem co_X0_putBack : Cond.code yX0_putBack cX0_putBack 1 none ∈ WL := WL_of 144 (by decide +kernel) (by decide +kernel)
theorem im_X0_putBack : Cond.instanceMethod yX0_putBack ∈ WL := WL_of 142 (by decide +kernel) (by decide +kernel)
theorem se_X0_putBack : Cond.selects RX0 yX0_putBack yX0_putBack ∈ WL := WL_of 143 (by decide +kernel) (by decide +kernel)
theorem co_X1_init : Cond.code yX1_init cX1_init 1 none ∈ WL := WL_of 50 (by decide +kernel) (by decide +kernel)
theorem im_X1_init : Cond.instanceMethod yX1_init ∈ WL := WL_of 49 (by decide +kernel) (by decide +kernel)
theorem co_X2_init : Cond.code yX2_init cX2_init 3 none ∈ WL := WL_of 248 (by decide +kernel) (by decide +kernel)
theorem im_X2_init : Cond.instanceMethod yX2_init ∈ WL := WL_of 247 (by decide +kernel) (by decide +kernel)
theorem co_X2_isNewerThan : Cond.code yX2_isNewerThan cX2_isNewerThan 2 (some .boolean) ∈ WL := WL_of 136 (by decide +kernel) (by decide +kernel)
theorem im_X2_isNewerThan : Cond.instanceMethod yX2_isNewerThan ∈ WL := WL_of 134 (by decide +kernel) (by decide +kernel)
theorem se_X2_isNewerThan : Cond.selects RX2 yX2_isNewerThan yX2_isNewerThan ∈ WL := WL_of 135 (by decide +kernel) (by decide +kernel)
theorem co_X3_init : Cond.code yX3_init cX3_init 2 none ∈ WL := WL_of 37 (by decide +kernel) (by decide +kernel)
theorem im_X3_init : Cond.instanceMethod yX3_init ∈ WL := WL_of 36 (by decide +kernel) (by decide +kernel)
theorem co_X3_object : Cond.code yX3_object cX3_object 3 (some .int) ∈ WL := WL_of 175 (by decide +kernel) (by decide +kernel)
theorem im_X3_object : Cond.instanceMethod yX3_object ∈ WL := WL_of 173 (by decide +kernel) (by decide +kernel)
theorem se_X3_object : Cond.selects RX3 yX3_object yX3_object ∈ WL := WL_of 174 (by decide +kernel) (by decide +kernel)
theorem co_X3_put : Cond.code yX3_put cX3_put 6 (some .int) ∈ WL := WL_of 282 (by decide +kernel) (by decide +kernel)
theorem im_X3_put : Cond.instanceMethod yX3_put ∈ WL := WL_of 280 (by decide +kernel) (by decide +kernel)
theorem se_X3_put : Cond.selects RX3 yX3_put yX3_put ∈ WL := WL_of 281 (by decide +kernel) (by decide +kernel)
theorem co_X3_get : Cond.code yX3_get cX3_get 4 (some .int) ∈ WL := WL_of 380 (by decide +kernel) (by decide +kernel)
theorem im_X3_get : Cond.instanceMethod yX3_get ∈ WL := WL_of 378 (by decide +kernel) (by decide +kernel)
theorem se_X3_get : Cond.selects RX3 yX3_get yX3_get ∈ WL := WL_of 379 (by decide +kernel) (by decide +kernel)
theorem co_X3_save : Cond.code yX3_save cX3_save 2 (some .int) ∈ WL := WL_of 387 (by decide +kernel) (by decide +kernel)
theorem im_X3_save : Cond.instanceMethod yX3_save ∈ WL := WL_of 385 (by decide +kernel) (by decide +kernel)
theorem se_X3_save : Cond.selects RX3 yX3_save yX3_save ∈ WL := WL_of 386 (by decide +kernel) (by decide +kernel)
theorem co_X3_restore : Cond.code yX3_restore cX3_restore 3 (some .int) ∈ WL := WL_of 113 (by decide +kernel) (by decide +kernel)
theorem im_X3_restore : Cond.instanceMethod yX3_restore ∈ WL := WL_of 111 (by decide +kernel) (by decide +kernel)
theorem se_X3_restore : Cond.selects RX3 yX3_restore yX3_restore ∈ WL := WL_of 112 (by decide +kernel) (by decide +kernel)
theorem co_X3_state : Cond.code yX3_state cX3_state 4 (some .int) ∈ WL := WL_of 398 (by decide +kernel) (by decide +kernel)
theorem im_X3_state : Cond.instanceMethod yX3_state ∈ WL := WL_of 396 (by decide +kernel) (by decide +kernel)
theorem se_X3_state : Cond.selects RX3 yX3_state yX3_state ∈ WL := WL_of 397 (by decide +kernel) (by decide +kernel)
theorem co_X3_stateOf : Cond.code yX3_stateOf cX3_stateOf 2 (some .int) ∈ WL := WL_of 405 (by decide +kernel) (by decide +kernel)
theorem im_X3_stateOf : Cond.instanceMethod yX3_stateOf ∈ WL := WL_of 403 (by decide +kernel) (by decide +kernel)
theorem se_X3_stateOf : Cond.selects RX3 yX3_stateOf yX3_stateOf ∈ WL := WL_of 404 (by decide +kernel) (by decide +kernel)
theorem co_X3_push : Cond.code yX3_push cX3_push 1 (some .int) ∈ WL := WL_of 412 (by decide +kernel) (by decide +kernel)
theorem im_X3_push : Cond.instanceMethod yX3_push ∈ WL := WL_of 410 (by decide +kernel) (by decide +kernel)
theorem se_X3_push : Cond.selects RX3 yX3_push yX3_push ∈ WL := WL_of 411 (by decide +kernel) (by decide +kernel)
theorem co_X3_pop : Cond.code yX3_pop cX3_pop 1 (some .int) ∈ WL := WL_of 155 (by decide +kernel) (by decide +kernel)
theorem im_X3_pop : Cond.instanceMethod yX3_pop ∈ WL := WL_of 153 (by decide +kernel) (by decide +kernel)
theorem se_X3_pop : Cond.selects RX3 yX3_pop yX3_pop ∈ WL := WL_of 154 (by decide +kernel) (by decide +kernel)
theorem co_X3_bytes : Cond.code yX3_bytes cX3_bytes 6 (some .int) ∈ WL := WL_of 420 (by decide +kernel) (by decide +kernel)
theorem im_X3_bytes : Cond.instanceMethod yX3_bytes ∈ WL := WL_of 418 (by decide +kernel) (by decide +kernel)
theorem se_X3_bytes : Cond.selects RX3 yX3_bytes yX3_bytes ∈ WL := WL_of 419 (by decide +kernel) (by decide +kernel)
theorem co_X3_used : Cond.code yX3_used cX3_used 3 (some .int) ∈ WL := WL_of 163 (by decide +kernel) (by decide +kernel)
theorem im_X3_used : Cond.instanceMethod yX3_used ∈ WL := WL_of 161 (by decide +kernel) (by decide +kernel)
theorem se_X3_used : Cond.selects RX3 yX3_used yX3_used ∈ WL := WL_of 162 (by decide +kernel) (by decide +kernel)
theorem co_X3_old : Cond.code yX3_old cX3_old 5 (some .int) ∈ WL := WL_of 428 (by decide +kernel) (by decide +kernel)
theorem im_X3_old : Cond.instanceMethod yX3_old ∈ WL := WL_of 426 (by decide +kernel) (by decide +kernel)
theorem se_X3_old : Cond.selects RX3 yX3_old yX3_old ∈ WL := WL_of 427 (by decide +kernel) (by decide +kernel)
theorem co_X3_deepest : Cond.code yX3_deepest cX3_deepest 1 (some .int) ∈ WL := WL_of 167 (by decide +kernel) (by decide +kernel)
theorem im_X3_deepest : Cond.instanceMethod yX3_deepest ∈ WL := WL_of 165 (by decide +kernel) (by decide +kernel)
theorem se_X3_deepest : Cond.selects RX3 yX3_deepest yX3_deepest ∈ WL := WL_of 166 (by decide +kernel) (by decide +kernel)
theorem co_X3_existing : Cond.code yX3_existing cX3_existing 3 (some (.object "SaveRestore$Thing")) ∈ WL := WL_of 286 (by decide +kernel) (by decide +kernel)
theorem im_X3_existing : Cond.instanceMethod yX3_existing ∈ WL := WL_of 285 (by decide +kernel) (by decide +kernel)
theorem se_X3_existing : Cond.selects RX3 yX3_existing yX3_existing ∈ WL := WL_of 8 (by decide +kernel) (by decide +kernel)
theorem co_X3_find : Cond.code yX3_find cX3_find 3 (some (.object "SaveRestore$Thing")) ∈ WL := WL_of 129 (by decide +kernel) (by decide +kernel)
theorem im_X3_find : Cond.instanceMethod yX3_find ∈ WL := WL_of 128 (by decide +kernel) (by decide +kernel)
theorem se_X3_find : Cond.selects RX3 yX3_find yX3_find ∈ WL := WL_of 3 (by decide +kernel) (by decide +kernel)
theorem co_X3_referredTo : Cond.code yX3_referredTo cX3_referredTo 2 (some (.object "SaveRestore$Thing")) ∈ WL := WL_of 125 (by decide +kernel) (by decide +kernel)
theorem im_X3_referredTo : Cond.instanceMethod yX3_referredTo ∈ WL := WL_of 124 (by decide +kernel) (by decide +kernel)
theorem se_X3_referredTo : Cond.selects RX3 yX3_referredTo yX3_referredTo ∈ WL := WL_of 2 (by decide +kernel) (by decide +kernel)
theorem co_X3_refersToLocal : Cond.code yX3_refersToLocal cX3_refersToLocal 3 (some .boolean) ∈ WL := WL_of 330 (by decide +kernel) (by decide +kernel)
theorem im_X3_refersToLocal : Cond.instanceMethod yX3_refersToLocal ∈ WL := WL_of 329 (by decide +kernel) (by decide +kernel)
theorem se_X3_refersToLocal : Cond.selects RX3 yX3_refersToLocal yX3_refersToLocal ∈ WL := WL_of 10 (by decide +kernel) (by decide +kernel)
theorem co_X3_checkValue : Cond.code yX3_checkValue cX3_checkValue 2 none ∈ WL := WL_of 306 (by decide +kernel) (by decide +kernel)
theorem im_X3_checkValue : Cond.instanceMethod yX3_checkValue ∈ WL := WL_of 305 (by decide +kernel) (by decide +kernel)
theorem se_X3_checkValue : Cond.selects RX3 yX3_checkValue yX3_checkValue ∈ WL := WL_of 9 (by decide +kernel) (by decide +kernel)
theorem co_X3_checkIndex : Cond.code yX3_checkIndex cX3_checkIndex 2 none ∈ WL := WL_of 310 (by decide +kernel) (by decide +kernel)
theorem st_X3_checkIndex : Cond.static yX3_checkIndex ∈ WL := WL_of 309 (by decide +kernel) (by decide +kernel)
theorem co_X3_keepRow : Cond.code yX3_keepRow cX3_keepRow 4 none ∈ WL := WL_of 350 (by decide +kernel) (by decide +kernel)
theorem im_X3_keepRow : Cond.instanceMethod yX3_keepRow ∈ WL := WL_of 349 (by decide +kernel) (by decide +kernel)
theorem se_X3_keepRow : Cond.selects RX3 yX3_keepRow yX3_keepRow ∈ WL := WL_of 11 (by decide +kernel) (by decide +kernel)
theorem co_X3_placeOfLiving : Cond.code yX3_placeOfLiving cX3_placeOfLiving 3 (some .int) ∈ WL := WL_of 117 (by decide +kernel) (by decide +kernel)
theorem im_X3_placeOfLiving : Cond.instanceMethod yX3_placeOfLiving ∈ WL := WL_of 116 (by decide +kernel) (by decide +kernel)
theorem se_X3_placeOfLiving : Cond.selects RX3 yX3_placeOfLiving yX3_placeOfLiving ∈ WL := WL_of 0 (by decide +kernel) (by decide +kernel)
theorem co_X3_keptRefersToNewer : Cond.code yX3_keptRefersToNewer cX3_keptRefersToNewer 4 (some .boolean) ∈ WL := WL_of 121 (by decide +kernel) (by decide +kernel)
theorem im_X3_keptRefersToNewer : Cond.instanceMethod yX3_keptRefersToNewer ∈ WL := WL_of 120 (by decide +kernel) (by decide +kernel)
theorem se_X3_keptRefersToNewer : Cond.selects RX3 yX3_keptRefersToNewer yX3_keptRefersToNewer ∈ WL := WL_of 1 (by decide +kernel) (by decide +kernel)
theorem co_X3_undoSince : Cond.code yX3_undoSince cX3_undoSince 3 none ∈ WL := WL_of 140 (by decide +kernel) (by decide +kernel)
theorem im_X3_undoSince : Cond.instanceMethod yX3_undoSince ∈ WL := WL_of 139 (by decide +kernel) (by decide +kernel)
theorem se_X3_undoSince : Cond.selects RX3 yX3_undoSince yX3_undoSince ∈ WL := WL_of 4 (by decide +kernel) (by decide +kernel)
theorem co_X3_dropLocalsNewerThan : Cond.code yX3_dropLocalsNewerThan cX3_dropLocalsNewerThan 5 none ∈ WL := WL_of 148 (by decide +kernel) (by decide +kernel)
theorem im_X3_dropLocalsNewerThan : Cond.instanceMethod yX3_dropLocalsNewerThan ∈ WL := WL_of 147 (by decide +kernel) (by decide +kernel)
theorem se_X3_dropLocalsNewerThan : Cond.selects RX3 yX3_dropLocalsNewerThan yX3_dropLocalsNewerThan ∈ WL := WL_of 5 (by decide +kernel) (by decide +kernel)
theorem co_X3_pushedSinceLatestSave : Cond.code yX3_pushedSinceLatestSave cX3_pushedSinceLatestSave 1 (some .int) ∈ WL := WL_of 159 (by decide +kernel) (by decide +kernel)
theorem im_X3_pushedSinceLatestSave : Cond.instanceMethod yX3_pushedSinceLatestSave ∈ WL := WL_of 158 (by decide +kernel) (by decide +kernel)
theorem se_X3_pushedSinceLatestSave : Cond.selects RX3 yX3_pushedSinceLatestSave yX3_pushedSinceLatestSave ∈ WL := WL_of 6 (by decide +kernel) (by decide +kernel)
theorem co_X4_init : Cond.code yX4_init cX4_init 1 none ∈ WL := WL_of 433 (by decide +kernel) (by decide +kernel)
theorem im_X4_init : Cond.instanceMethod yX4_init ∈ WL := WL_of 432 (by decide +kernel) (by decide +kernel)
theorem co_X4_thrown : Cond.code yX4_thrown cX4_thrown 1 (some .int) ∈ WL := WL_of 503 (by decide +kernel) (by decide +kernel)
theorem im_X4_thrown : Cond.instanceMethod yX4_thrown ∈ WL := WL_of 501 (by decide +kernel) (by decide +kernel)
theorem se_X4_thrown : Cond.selects RX4 yX4_thrown yX4_thrown ∈ WL := WL_of 502 (by decide +kernel) (by decide +kernel)
theorem co_X4_isObject : Cond.code yX4_isObject cX4_isObject 2 (some .boolean) ∈ WL := WL_of 515 (by decide +kernel) (by decide +kernel)
theorem im_X4_isObject : Cond.instanceMethod yX4_isObject ∈ WL := WL_of 514 (by decide +kernel) (by decide +kernel)
theorem se_X4_isObject : Cond.selects RX4 yX4_isObject yX4_isObject ∈ WL := WL_of 12 (by decide +kernel) (by decide +kernel)
theorem co_X4_isValue : Cond.code yX4_isValue cX4_isValue 2 (some .boolean) ∈ WL := WL_of 519 (by decide +kernel) (by decide +kernel)
theorem im_X4_isValue : Cond.instanceMethod yX4_isValue ∈ WL := WL_of 518 (by decide +kernel) (by decide +kernel)
theorem se_X4_isValue : Cond.selects RX4 yX4_isValue yX4_isValue ∈ WL := WL_of 13 (by decide +kernel) (by decide +kernel)
theorem co_X4_isEight : Cond.code yX4_isEight cX4_isEight 1 (some .boolean) ∈ WL := WL_of 522 (by decide +kernel) (by decide +kernel)
theorem st_X4_isEight : Cond.static yX4_isEight ∈ WL := WL_of 521 (by decide +kernel) (by decide +kernel)
theorem co_X4_object : Cond.code yX4_object cX4_object 2 (some .int) ∈ WL := WL_of 507 (by decide +kernel) (by decide +kernel)
theorem im_X4_object : Cond.instanceMethod yX4_object ∈ WL := WL_of 505 (by decide +kernel) (by decide +kernel)
theorem se_X4_object : Cond.selects RX4 yX4_object yX4_object ∈ WL := WL_of 506 (by decide +kernel) (by decide +kernel)
theorem co_X4_keep : Cond.code yX4_keep cX4_keep 5 none ∈ WL := WL_of 526 (by decide +kernel) (by decide +kernel)
theorem im_X4_keep : Cond.instanceMethod yX4_keep ∈ WL := WL_of 525 (by decide +kernel) (by decide +kernel)
theorem se_X4_keep : Cond.selects RX4 yX4_keep yX4_keep ∈ WL := WL_of 14 (by decide +kernel) (by decide +kernel)
theorem co_X4_put : Cond.code yX4_put cX4_put 6 (some .int) ∈ WL := WL_of 511 (by decide +kernel) (by decide +kernel)
theorem im_X4_put : Cond.instanceMethod yX4_put ∈ WL := WL_of 509 (by decide +kernel) (by decide +kernel)
theorem se_X4_put : Cond.selects RX4 yX4_put yX4_put ∈ WL := WL_of 510 (by decide +kernel) (by decide +kernel)
theorem co_X4_get : Cond.code yX4_get cX4_get 3 (some .int) ∈ WL := WL_of 530 (by decide +kernel) (by decide +kernel)
theorem im_X4_get : Cond.instanceMethod yX4_get ∈ WL := WL_of 528 (by decide +kernel) (by decide +kernel)
theorem se_X4_get : Cond.selects RX4 yX4_get yX4_get ∈ WL := WL_of 529 (by decide +kernel) (by decide +kernel)
theorem co_X4_save : Cond.code yX4_save cX4_save 2 (some .int) ∈ WL := WL_of 534 (by decide +kernel) (by decide +kernel)
theorem im_X4_save : Cond.instanceMethod yX4_save ∈ WL := WL_of 532 (by decide +kernel) (by decide +kernel)
theorem se_X4_save : Cond.selects RX4 yX4_save yX4_save ∈ WL := WL_of 533 (by decide +kernel) (by decide +kernel)
theorem co_X4_isLive : Cond.code yX4_isLive cX4_isLive 4 (some .boolean) ∈ WL := WL_of 542 (by decide +kernel) (by decide +kernel)
theorem im_X4_isLive : Cond.instanceMethod yX4_isLive ∈ WL := WL_of 541 (by decide +kernel) (by decide +kernel)
theorem se_X4_isLive : Cond.selects RX4 yX4_isLive yX4_isLive ∈ WL := WL_of 15 (by decide +kernel) (by decide +kernel)
theorem co_X4_isNewer : Cond.code yX4_isNewer cX4_isNewer 3 (some .boolean) ∈ WL := WL_of 546 (by decide +kernel) (by decide +kernel)
theorem im_X4_isNewer : Cond.instanceMethod yX4_isNewer ∈ WL := WL_of 545 (by decide +kernel) (by decide +kernel)
theorem se_X4_isNewer : Cond.selects RX4 yX4_isNewer yX4_isNewer ∈ WL := WL_of 16 (by decide +kernel) (by decide +kernel)
theorem co_X4_restore : Cond.code yX4_restore cX4_restore 4 (some .int) ∈ WL := WL_of 538 (by decide +kernel) (by decide +kernel)
theorem im_X4_restore : Cond.instanceMethod yX4_restore ∈ WL := WL_of 536 (by decide +kernel) (by decide +kernel)
theorem se_X4_restore : Cond.selects RX4 yX4_restore yX4_restore ∈ WL := WL_of 537 (by decide +kernel) (by decide +kernel)
theorem co_X4_isParameter : Cond.code yX4_isParameter cX4_isParameter 1 (some .boolean) ∈ WL := WL_of 553 (by decide +kernel) (by decide +kernel)
theorem st_X4_isParameter : Cond.static yX4_isParameter ∈ WL := WL_of 552 (by decide +kernel) (by decide +kernel)
theorem co_X4_state : Cond.code yX4_state cX4_state 4 (some .int) ∈ WL := WL_of 550 (by decide +kernel) (by decide +kernel)
theorem im_X4_state : Cond.instanceMethod yX4_state ∈ WL := WL_of 548 (by decide +kernel) (by decide +kernel)
theorem se_X4_state : Cond.selects RX4 yX4_state yX4_state ∈ WL := WL_of 549 (by decide +kernel) (by decide +kernel)
theorem co_X4_stateOf : Cond.code yX4_stateOf cX4_stateOf 2 (some .int) ∈ WL := WL_of 557 (by decide +kernel) (by decide +kernel)
theorem im_X4_stateOf : Cond.instanceMethod yX4_stateOf ∈ WL := WL_of 555 (by decide +kernel) (by decide +kernel)
theorem se_X4_stateOf : Cond.selects RX4 yX4_stateOf yX4_stateOf ∈ WL := WL_of 556 (by decide +kernel) (by decide +kernel)
theorem co_X4_ownStates : Cond.code yX4_ownStates cX4_ownStates 1 (some .int) ∈ WL := WL_of 565 (by decide +kernel) (by decide +kernel)
theorem im_X4_ownStates : Cond.instanceMethod yX4_ownStates ∈ WL := WL_of 564 (by decide +kernel) (by decide +kernel)
theorem se_X4_ownStates : Cond.selects RX4 yX4_ownStates yX4_ownStates ∈ WL := WL_of 17 (by decide +kernel) (by decide +kernel)
theorem co_X4_push : Cond.code yX4_push cX4_push 2 (some .int) ∈ WL := WL_of 561 (by decide +kernel) (by decide +kernel)
theorem im_X4_push : Cond.instanceMethod yX4_push ∈ WL := WL_of 559 (by decide +kernel) (by decide +kernel)
theorem se_X4_push : Cond.selects RX4 yX4_push yX4_push ∈ WL := WL_of 560 (by decide +kernel) (by decide +kernel)
theorem co_X4_pop : Cond.code yX4_pop cX4_pop 2 (some .int) ∈ WL := WL_of 569 (by decide +kernel) (by decide +kernel)
theorem im_X4_pop : Cond.instanceMethod yX4_pop ∈ WL := WL_of 567 (by decide +kernel) (by decide +kernel)
theorem se_X4_pop : Cond.selects RX4 yX4_pop yX4_pop ∈ WL := WL_of 568 (by decide +kernel) (by decide +kernel)
theorem co_X4_bytes : Cond.code yX4_bytes cX4_bytes 6 (some .int) ∈ WL := WL_of 573 (by decide +kernel) (by decide +kernel)
theorem im_X4_bytes : Cond.instanceMethod yX4_bytes ∈ WL := WL_of 571 (by decide +kernel) (by decide +kernel)
theorem se_X4_bytes : Cond.selects RX4 yX4_bytes yX4_bytes ∈ WL := WL_of 572 (by decide +kernel) (by decide +kernel)
theorem co_X4_used : Cond.code yX4_used cX4_used 1 (some .int) ∈ WL := WL_of 577 (by decide +kernel) (by decide +kernel)
theorem im_X4_used : Cond.instanceMethod yX4_used ∈ WL := WL_of 575 (by decide +kernel) (by decide +kernel)
theorem se_X4_used : Cond.selects RX4 yX4_used yX4_used ∈ WL := WL_of 576 (by decide +kernel) (by decide +kernel)
theorem co_X4_old : Cond.code yX4_old cX4_old 4 (some .int) ∈ WL := WL_of 581 (by decide +kernel) (by decide +kernel)
theorem im_X4_old : Cond.instanceMethod yX4_old ∈ WL := WL_of 579 (by decide +kernel) (by decide +kernel)
theorem se_X4_old : Cond.selects RX4 yX4_old yX4_old ∈ WL := WL_of 580 (by decide +kernel) (by decide +kernel)
theorem co_X4_deepest : Cond.code yX4_deepest cX4_deepest 1 (some .int) ∈ WL := WL_of 585 (by decide +kernel) (by decide +kernel)
theorem im_X4_deepest : Cond.instanceMethod yX4_deepest ∈ WL := WL_of 583 (by decide +kernel) (by decide +kernel)
theorem se_X4_deepest : Cond.selects RX4 yX4_deepest yX4_deepest ∈ WL := WL_of 584 (by decide +kernel) (by decide +kernel)
theorem cw_L_object : Cond.codeWith yL_object cL_object 4 (some .int) [(0, 9, 12, 13)] ∈ WL := WL_of 170 (by decide +kernel) (by decide +kernel)
theorem st_L_object : Cond.static yL_object ∈ WL := WL_of 169 (by decide +kernel) (by decide +kernel)
theorem cw_L_put : Cond.codeWith yL_put cL_put 6 (some .int) [(0, 12, 15, 19), (0, 12, 19, 21), (0, 12, 23, 23)] ∈ WL := WL_of 275 (by decide +kernel) (by decide +kernel)
theorem st_L_put : Cond.static yL_put ∈ WL := WL_of 274 (by decide +kernel) (by decide +kernel)
theorem cw_L_get : Cond.codeWith yL_get cL_get 5 (some .int) [(0, 10, 13, 19), (0, 10, 17, 21)] ∈ WL := WL_of 376 (by decide +kernel) (by decide +kernel)
theorem st_L_get : Cond.static yL_get ∈ WL := WL_of 375 (by decide +kernel) (by decide +kernel)
theorem cw_L_save : Cond.codeWith yL_save cL_save 3 (some .int) [(0, 8, 11, 13)] ∈ WL := WL_of 383 (by decide +kernel) (by decide +kernel)
theorem st_L_save : Cond.static yL_save ∈ WL := WL_of 382 (by decide +kernel) (by decide +kernel)
theorem cw_L_state : Cond.codeWith yL_state cL_state 5 (some .int) [(0, 10, 13, 19), (0, 10, 17, 21)] ∈ WL := WL_of 394 (by decide +kernel) (by decide +kernel)
theorem st_L_state : Cond.static yL_state ∈ WL := WL_of 393 (by decide +kernel) (by decide +kernel)
theorem cw_L_stateOf : Cond.codeWith yL_stateOf cL_stateOf 4 (some .int) [(0, 9, 12, 21)] ∈ WL := WL_of 401 (by decide +kernel) (by decide +kernel)
theorem st_L_stateOf : Cond.static yL_stateOf ∈ WL := WL_of 400 (by decide +kernel) (by decide +kernel)
theorem cw_L_push : Cond.codeWith yL_push cL_push 3 (some .int) [(0, 8, 11, 13)] ∈ WL := WL_of 408 (by decide +kernel) (by decide +kernel)
theorem st_L_push : Cond.static yL_push ∈ WL := WL_of 407 (by decide +kernel) (by decide +kernel)
theorem cw_L_bytes : Cond.codeWith yL_bytes cL_bytes 6 (some .int) [(0, 12, 15, 19), (0, 12, 19, 21)] ∈ WL := WL_of 416 (by decide +kernel) (by decide +kernel)
theorem st_L_bytes : Cond.static yL_bytes ∈ WL := WL_of 415 (by decide +kernel) (by decide +kernel)
theorem cw_L_old : Cond.codeWith yL_old cL_old 4 (some .int) [(0, 9, 12, 19)] ∈ WL := WL_of 424 (by decide +kernel) (by decide +kernel)
theorem st_L_old : Cond.static yL_old ∈ WL := WL_of 423 (by decide +kernel) (by decide +kernel)
theorem w_L_49 : WI RL 49 yX3_init cX3_init 2 0 := ⟨⟨ml_L_49, im_X3_init, ini_X3, co_X3_init⟩, rfl, by decide +kernel, by decide +kernel, by decide +kernel⟩
theorem w_L_74 : WV RL 74 RX3 yX3_restore cX3_restore 3 (some .int) 1 := ⟨⟨⟨ml_L_74, im_X3_restore⟩, se_X3_restore, ini_X3, co_X3_restore⟩, rfl, by decide +kernel, by decide +kernel, by decide +kernel⟩
theorem w_X3_117 : WV RX3 117 RX3 yX3_placeOfLiving cX3_placeOfLiving 3 (some .int) 1 := ⟨⟨⟨ml_X3_117, im_X3_placeOfLiving⟩, se_X3_placeOfLiving, ini_X3, co_X3_placeOfLiving⟩, rfl, by decide +kernel, by decide +kernel, by decide +kernel⟩
theorem w_X3_121 : WV RX3 121 RX3 yX3_keptRefersToNewer cX3_keptRefersToNewer 4 (some .boolean) 1 := ⟨⟨⟨ml_X3_121, im_X3_keptRefersToNewer⟩, se_X3_keptRefersToNewer, ini_X3, co_X3_keptRefersToNewer⟩, rfl, by decide +kernel, by decide +kernel, by decide +kernel⟩
theorem w_X3_160 : WV RX3 160 RX3 yX3_referredTo cX3_referredTo 2 (some (.object "SaveRestore$Thing")) 1 := ⟨⟨⟨ml_X3_160, im_X3_referredTo⟩, se_X3_referredTo, ini_X3, co_X3_referredTo⟩, rfl, by decide +kernel, by decide +kernel, by decide +kernel⟩
theorem w_X3_149 : WV RX3 149 RX3 yX3_find cX3_find 3 (some (.object "SaveRestore$Thing")) 1 := ⟨⟨⟨ml_X3_149, im_X3_find⟩, se_X3_find, ini_X3, co_X3_find⟩, rfl, by decide +kernel, by decide +kernel, by decide +kernel⟩
theorem w_X3_146 : WV RX3 146 RX2 yX2_isNewerThan cX2_isNewerThan 2 (some .boolean) 1 := ⟨⟨⟨ml_X3_146, im_X2_isNewerThan⟩, se_X2_isNewerThan, ini_X2, co_X2_isNewerThan⟩, rfl, by decide +kernel, by decide +kernel, by decide +kernel⟩
theorem w_X3_125 : WV RX3 125 RX3 yX3_undoSince cX3_undoSince 3 none 1 := ⟨⟨⟨ml_X3_125, im_X3_undoSince⟩, se_X3_undoSince, ini_X3, co_X3_undoSince⟩, rfl, by decide +kernel, by decide +kernel, by decide +kernel⟩
theorem w_X3_179 : WV RX3 179 RX0 yX0_putBack cX0_putBack 1 none 0 := ⟨⟨⟨ml_X3_179, im_X0_putBack⟩, se_X0_putBack, ini_X0, co_X0_putBack⟩, rfl, by decide +kernel, by decide +kernel, by decide +kernel⟩
theorem w_X3_185 : WV RX3 185 RX3 yX3_dropLocalsNewerThan cX3_dropLocalsNewerThan 5 none 1 := ⟨⟨⟨ml_X3_185, im_X3_dropLocalsNewerThan⟩, se_X3_dropLocalsNewerThan, ini_X3, co_X3_dropLocalsNewerThan⟩, rfl, by decide +kernel, by decide +kernel, by decide +kernel⟩
theorem w_L_88 : WV RL 88 RX3 yX3_pop cX3_pop 1 (some .int) 0 := ⟨⟨⟨ml_L_88, im_X3_pop⟩, se_X3_pop, ini_X3, co_X3_pop⟩, rfl, by decide +kernel, by decide +kernel, by decide +kernel⟩
theorem w_X3_131 : WV RX3 131 RX3 yX3_pushedSinceLatestSave cX3_pushedSinceLatestSave 1 (some .int) 0 := ⟨⟨⟨ml_X3_131, im_X3_pushedSinceLatestSave⟩, se_X3_pushedSinceLatestSave, ini_X3, co_X3_pushedSinceLatestSave⟩, rfl, by decide +kernel, by decide +kernel, by decide +kernel⟩
theorem w_L_95 : WV RL 95 RX3 yX3_used cX3_used 3 (some .int) 0 := ⟨⟨⟨ml_L_95, im_X3_used⟩, se_X3_used, ini_X3, co_X3_used⟩, rfl, by decide +kernel, by decide +kernel, by decide +kernel⟩
theorem w_L_102 : WV RL 102 RX3 yX3_deepest cX3_deepest 1 (some .int) 0 := ⟨⟨⟨ml_L_102, im_X3_deepest⟩, se_X3_deepest, ini_X3, co_X3_deepest⟩, rfl, by decide +kernel, by decide +kernel, by decide +kernel⟩
theorem w_L_7 : WV RL 7 RX3 yX3_object cX3_object 3 (some .int) 1 := ⟨⟨⟨ml_L_7, im_X3_object⟩, se_X3_object, ini_X3, co_X3_object⟩, rfl, by decide +kernel, by decide +kernel, by decide +kernel⟩
theorem w_X3_57 : WI RX3 57 yX2_init cX2_init 3 2 := ⟨⟨ml_X3_57, im_X2_init, ini_X2, co_X2_init⟩, rfl, by decide +kernel, by decide +kernel, by decide +kernel⟩
theorem w_L_15 : WV RL 15 RX3 yX3_put cX3_put 6 (some .int) 3 := ⟨⟨⟨ml_L_15, im_X3_put⟩, se_X3_put, ini_X3, co_X3_put⟩, rfl, by decide +kernel, by decide +kernel, by decide +kernel⟩
theorem w_X3_63 : WV RX3 63 RX3 yX3_existing cX3_existing 3 (some (.object "SaveRestore$Thing")) 1 := ⟨⟨⟨ml_X3_63, im_X3_existing⟩, se_X3_existing, ini_X3, co_X3_existing⟩, rfl, by decide +kernel, by decide +kernel, by decide +kernel⟩
theorem w_X3_67 : WV RX3 67 RX3 yX3_checkValue cX3_checkValue 2 none 1 := ⟨⟨⟨ml_X3_67, im_X3_checkValue⟩, se_X3_checkValue, ini_X3, co_X3_checkValue⟩, rfl, by decide +kernel, by decide +kernel, by decide +kernel⟩
theorem w_X3_71 : WS RX3 71 yX3_checkIndex cX3_checkIndex 2 none 2 := ⟨⟨ml_X3_71, st_X3_checkIndex, ini_X3, co_X3_checkIndex⟩, rfl, by decide +kernel, by decide +kernel, by decide +kernel⟩
theorem w_X3_79 : WV RX3 79 RX3 yX3_refersToLocal cX3_refersToLocal 3 (some .boolean) 1 := ⟨⟨⟨ml_X3_79, im_X3_refersToLocal⟩, se_X3_refersToLocal, ini_X3, co_X3_refersToLocal⟩, rfl, by decide +kernel, by decide +kernel, by decide +kernel⟩
theorem w_X3_88 : WV RX3 88 RX3 yX3_keepRow cX3_keepRow 4 none 2 := ⟨⟨⟨ml_X3_88, im_X3_keepRow⟩, se_X3_keepRow, ini_X3, co_X3_keepRow⟩, rfl, by decide +kernel, by decide +kernel, by decide +kernel⟩
theorem w_X3_176 : WI RX3 176 yX0_init cX0_init 4 3 := ⟨⟨ml_X3_176, im_X0_init, ini_X0, co_X0_init⟩, rfl, by decide +kernel, by decide +kernel, by decide +kernel⟩
theorem w_L_25 : WV RL 25 RX3 yX3_get cX3_get 4 (some .int) 2 := ⟨⟨⟨ml_L_25, im_X3_get⟩, se_X3_get, ini_X3, co_X3_get⟩, rfl, by decide +kernel, by decide +kernel, by decide +kernel⟩
theorem w_L_29 : WV RL 29 RX3 yX3_save cX3_save 2 (some .int) 0 := ⟨⟨⟨ml_L_29, im_X3_save⟩, se_X3_save, ini_X3, co_X3_save⟩, rfl, by decide +kernel, by decide +kernel, by decide +kernel⟩
theorem w_L_33 : WV RL 33 RX3 yX3_state cX3_state 4 (some .int) 2 := ⟨⟨⟨ml_L_33, im_X3_state⟩, se_X3_state, ini_X3, co_X3_state⟩, rfl, by decide +kernel, by decide +kernel, by decide +kernel⟩
theorem w_L_36 : WV RL 36 RX3 yX3_stateOf cX3_stateOf 2 (some .int) 1 := ⟨⟨⟨ml_L_36, im_X3_stateOf⟩, se_X3_stateOf, ini_X3, co_X3_stateOf⟩, rfl, by decide +kernel, by decide +kernel, by decide +kernel⟩
theorem w_L_40 : WV RL 40 RX3 yX3_push cX3_push 1 (some .int) 0 := ⟨⟨⟨ml_L_40, im_X3_push⟩, se_X3_push, ini_X3, co_X3_push⟩, rfl, by decide +kernel, by decide +kernel, by decide +kernel⟩
theorem w_L_43 : WV RL 43 RX3 yX3_bytes cX3_bytes 6 (some .int) 3 := ⟨⟨⟨ml_L_43, im_X3_bytes⟩, se_X3_bytes, ini_X3, co_X3_bytes⟩, rfl, by decide +kernel, by decide +kernel, by decide +kernel⟩
theorem w_L_46 : WV RL 46 RX3 yX3_old cX3_old 5 (some .int) 1 := ⟨⟨⟨ml_L_46, im_X3_old⟩, se_X3_old, ini_X3, co_X3_old⟩, rfl, by decide +kernel, by decide +kernel, by decide +kernel⟩
theorem w_L_52 : WI RL 52 yX4_init cX4_init 1 0 := ⟨⟨ml_L_52, im_X4_init, ini_X4, co_X4_init⟩, rfl, by decide +kernel, by decide +kernel, by decide +kernel⟩
theorem w_L_59 : WV RL 59 RX4 yX4_thrown cX4_thrown 1 (some .int) 0 := ⟨⟨⟨ml_L_59, im_X4_thrown⟩, se_X4_thrown, ini_X4, co_X4_thrown⟩, rfl, by decide +kernel, by decide +kernel, by decide +kernel⟩
theorem w_L_58 : WV RL 58 RX4 yX4_object cX4_object 2 (some .int) 1 := ⟨⟨⟨ml_L_58, im_X4_object⟩, se_X4_object, ini_X4, co_X4_object⟩, rfl, by decide +kernel, by decide +kernel, by decide +kernel⟩
theorem w_L_65 : WV RL 65 RX4 yX4_put cX4_put 6 (some .int) 3 := ⟨⟨⟨ml_L_65, im_X4_put⟩, se_X4_put, ini_X4, co_X4_put⟩, rfl, by decide +kernel, by decide +kernel, by decide +kernel⟩
theorem w_X4_57 : WV RX4 57 RX4 yX4_isObject cX4_isObject 2 (some .boolean) 1 := ⟨⟨⟨ml_X4_57, im_X4_isObject⟩, se_X4_isObject, ini_X4, co_X4_isObject⟩, rfl, by decide +kernel, by decide +kernel, by decide +kernel⟩
theorem w_X4_70 : WV RX4 70 RX4 yX4_isValue cX4_isValue 2 (some .boolean) 1 := ⟨⟨⟨ml_X4_70, im_X4_isValue⟩, se_X4_isValue, ini_X4, co_X4_isValue⟩, rfl, by decide +kernel, by decide +kernel, by decide +kernel⟩
theorem w_X4_73 : WS RX4 73 yX4_isEight cX4_isEight 1 (some .boolean) 1 := ⟨⟨ml_X4_73, st_X4_isEight, ini_X4, co_X4_isEight⟩, rfl, by decide +kernel, by decide +kernel, by decide +kernel⟩
theorem w_X4_76 : WV RX4 76 RX4 yX4_keep cX4_keep 5 none 1 := ⟨⟨⟨ml_X4_76, im_X4_keep⟩, se_X4_keep, ini_X4, co_X4_keep⟩, rfl, by decide +kernel, by decide +kernel, by decide +kernel⟩
theorem w_L_69 : WV RL 69 RX4 yX4_get cX4_get 3 (some .int) 2 := ⟨⟨⟨ml_L_69, im_X4_get⟩, se_X4_get, ini_X4, co_X4_get⟩, rfl, by decide +kernel, by decide +kernel, by decide +kernel⟩
theorem w_L_73 : WV RL 73 RX4 yX4_save cX4_save 2 (some .int) 0 := ⟨⟨⟨ml_L_73, im_X4_save⟩, se_X4_save, ini_X4, co_X4_save⟩, rfl, by decide +kernel, by decide +kernel, by decide +kernel⟩
theorem w_L_77 : WV RL 77 RX4 yX4_restore cX4_restore 4 (some .int) 1 := ⟨⟨⟨ml_L_77, im_X4_restore⟩, se_X4_restore, ini_X4, co_X4_restore⟩, rfl, by decide +kernel, by decide +kernel, by decide +kernel⟩
theorem w_X4_89 : WV RX4 89 RX4 yX4_isLive cX4_isLive 4 (some .boolean) 1 := ⟨⟨⟨ml_X4_89, im_X4_isLive⟩, se_X4_isLive, ini_X4, co_X4_isLive⟩, rfl, by decide +kernel, by decide +kernel, by decide +kernel⟩
theorem w_X4_92 : WV RX4 92 RX4 yX4_isNewer cX4_isNewer 3 (some .boolean) 2 := ⟨⟨⟨ml_X4_92, im_X4_isNewer⟩, se_X4_isNewer, ini_X4, co_X4_isNewer⟩, rfl, by decide +kernel, by decide +kernel, by decide +kernel⟩
theorem w_L_80 : WV RL 80 RX4 yX4_state cX4_state 4 (some .int) 2 := ⟨⟨⟨ml_L_80, im_X4_state⟩, se_X4_state, ini_X4, co_X4_state⟩, rfl, by decide +kernel, by decide +kernel, by decide +kernel⟩
theorem w_X4_96 : WS RX4 96 yX4_isParameter cX4_isParameter 1 (some .boolean) 1 := ⟨⟨ml_X4_96, st_X4_isParameter, ini_X4, co_X4_isParameter⟩, rfl, by decide +kernel, by decide +kernel, by decide +kernel⟩
theorem w_L_84 : WV RL 84 RX4 yX4_stateOf cX4_stateOf 2 (some .int) 1 := ⟨⟨⟨ml_L_84, im_X4_stateOf⟩, se_X4_stateOf, ini_X4, co_X4_stateOf⟩, rfl, by decide +kernel, by decide +kernel, by decide +kernel⟩
theorem w_L_87 : WV RL 87 RX4 yX4_push cX4_push 2 (some .int) 0 := ⟨⟨⟨ml_L_87, im_X4_push⟩, se_X4_push, ini_X4, co_X4_push⟩, rfl, by decide +kernel, by decide +kernel, by decide +kernel⟩
theorem w_X4_99 : WV RX4 99 RX4 yX4_ownStates cX4_ownStates 1 (some .int) 0 := ⟨⟨⟨ml_X4_99, im_X4_ownStates⟩, se_X4_ownStates, ini_X4, co_X4_ownStates⟩, rfl, by decide +kernel, by decide +kernel, by decide +kernel⟩
theorem w_L_91 : WV RL 91 RX4 yX4_pop cX4_pop 2 (some .int) 0 := ⟨⟨⟨ml_L_91, im_X4_pop⟩, se_X4_pop, ini_X4, co_X4_pop⟩, rfl, by decide +kernel, by decide +kernel, by decide +kernel⟩
theorem w_L_94 : WV RL 94 RX4 yX4_bytes cX4_bytes 6 (some .int) 3 := ⟨⟨⟨ml_L_94, im_X4_bytes⟩, se_X4_bytes, ini_X4, co_X4_bytes⟩, rfl, by decide +kernel, by decide +kernel, by decide +kernel⟩
theorem w_L_98 : WV RL 98 RX4 yX4_used cX4_used 1 (some .int) 0 := ⟨⟨⟨ml_L_98, im_X4_used⟩, se_X4_used, ini_X4, co_X4_used⟩, rfl, by decide +kernel, by decide +kernel, by decide +kernel⟩
theorem w_L_101 : WV RL 101 RX4 yX4_old cX4_old 4 (some .int) 1 := ⟨⟨⟨ml_L_101, im_X4_old⟩, se_X4_old, ini_X4, co_X4_old⟩, rfl, by decide +kernel, by decide +kernel, by decide +kernel⟩
theorem w_L_105 : WV RL 105 RX4 yX4_deepest cX4_deepest 1 (some .int) 0 := ⟨⟨⟨ml_L_105, im_X4_deepest⟩, se_X4_deepest, ini_X4, co_X4_deepest⟩, rfl, by decide +kernel, by decide +kernel, by decide +kernel⟩
theorem ini_EU : Cond.initialized "java/lang/UnsupportedOperationException" ∈ WL := WL_of 25 (by decide +kernel) (by decide +kernel)
set_option maxRecDepth 20000 in
theorem ea_U : ∀ w ∈ vx_atS RX3 54 "java/lang/UnsupportedOperationException" ["java/lang/RuntimeException", "java/lang/Exception"], w ∈ WL ∨ w ∈ NGl := by decide +kernel
set_option maxRecDepth 20000 in
theorem eg_U : ∀ w ∈ Cond.classLink RX3 50 "java/lang/UnsupportedOperationException" :: Cond.initialized "java/lang/UnsupportedOperationException" :: vx_atS RX3 54 "java/lang/UnsupportedOperationException" ["java/lang/RuntimeException", "java/lang/Exception"], vx_ot w = true := by decide +kernel
theorem ini_EN : Cond.initialized "java/util/NoSuchElementException" ∈ WL := WL_of 28 (by decide +kernel) (by decide +kernel)
theorem ini_EB : Cond.initialized "java/lang/IndexOutOfBoundsException" ∈ WL := WL_of 29 (by decide +kernel) (by decide +kernel)
set_option maxRecDepth 20000 in
theorem ea_B : ∀ w ∈ vx_atS RX3 139 "java/lang/IndexOutOfBoundsException" ["java/lang/RuntimeException", "java/lang/Exception"], w ∈ WL ∨ w ∈ NGl := by decide +kernel
set_option maxRecDepth 20000 in
theorem eg_B : ∀ w ∈ Cond.classLink RX3 135 "java/lang/IndexOutOfBoundsException" :: Cond.initialized "java/lang/IndexOutOfBoundsException" :: vx_atS RX3 139 "java/lang/IndexOutOfBoundsException" ["java/lang/RuntimeException", "java/lang/Exception"], vx_ot w = true := by decide +kernel
theorem ini_ES : Cond.initialized "java/lang/IllegalStateException" ∈ WL := WL_of 30 (by decide +kernel) (by decide +kernel)
set_option maxRecDepth 20000 in
theorem ea_S : ∀ w ∈ vx_atS RX3 87 "java/lang/IllegalStateException" ["java/lang/RuntimeException", "java/lang/Exception"], w ∈ WL ∨ w ∈ NGl := by decide +kernel
set_option maxRecDepth 20000 in
theorem eg_S : ∀ w ∈ Cond.classLink RX3 83 "java/lang/IllegalStateException" :: Cond.initialized "java/lang/IllegalStateException" :: vx_atS RX3 87 "java/lang/IllegalStateException" ["java/lang/RuntimeException", "java/lang/Exception"], vx_ot w = true := by decide +kernel
end
section
/-! a throw of an exception whose own constructor hands on by another entry than 7 (java/util/NoSuchElementException, entry 13): after the library's ctorThrowS and the printed vx_throwS, with the first link left open and less said of the cell -/
def atG (own : String) (ic : Nat) (X Y : String) (names : List String) (ix : Nat) (b6 : ByteArray) : List Cond :=
  Bundle.throwableAtoms ++ Bundle.throwableSAtoms ++ (Bundle.passSAtoms X Y ix b6 ++ Bundle.chainSAtoms Y names) ++
  [.methodLink own ic (Bundle.initS X), .instantiable X 6, .castable X X, .selects X Bundle.tFill0 Bundle.tFill0, .selects X Bundle.tFill Bundle.tFill,
   .lays X Bundle.tN "cause" "Ljava/lang/Throwable;", .lays X Bundle.tN "stackTrace" Bundle.steD, .lays X Bundle.tN "suppressedExceptions" Bundle.listD, .lays X Bundle.tN "detailMessage" "Ljava/lang/String;",
   .isRef (.static Bundle.tN "UNASSIGNED_STACK" Bundle.steD), .isRef (.static Bundle.tN "SUPPRESSED_SENTINEL" Bundle.listD),
   .fieldLink Bundle.tN 198 Bundle.tN "backtrace" "Ljava/lang/Object;", .lays Bundle.tN Bundle.tN "backtrace" "Ljava/lang/Object;", .lays X Bundle.tN "backtrace" "Ljava/lang/Object;"]
section
variable {p : Program} {l : Launch} {e : Env} {R : Room} {s : State} {m : MethodId} {args : Array Value} {below : List Frame} {meth : Method} {c : Code} {locs : List Loc} {cells slots : Nat}
set_option maxHeartbeats 4000000 in
theorem ctorThrowG {Z9 : State} (X : Stand p l e R s m args below meth c Z9 locs cells slots) (hexec : p.tables.exec = Jvm.exec) (htr : e.platform.stackTraces = false) {own cls Yn : String} {names : List String} {ic ix : Nat} {b6 : ByteArray}
    (hown : s.vm.findClass own = some m.cls) (hcls : Bundle.fit cls = true) (hYn : Bundle.fit Yn = true) (hnames : ∀ n ∈ names, Bundle.fit n = true)
    (k0 : decode b6 0 = .ok (.aload_n 0, 1)) (k1 : decode b6 1 = .ok (.aload_n 1, 1)) (k2 : decode b6 2 = .ok (.invokespecial ix, 3)) (k5 : decode b6 5 = .ok (.return_, 1))
    (h : ∀ a ∈ atG own ic cls Yn names ix b6, a.before args s = true)
    (hlocs : ∀ x ∈ locs, ∀ cell, s.heap[x.base]? = some cell → cell.vm.isStatics = false)
    {a : Addr} {cX : ClassId} {kX : Class} (hfoundX : s.vm.findClass cls = some cX) (hkX : s.vm.classes[cX]? = some kX) (hcell : Z9.heap[a]? = some (freshCell cX kX)) (hnew : s.heap.size ≤ a)
    {msg : Value} (hmsg : msg.isRef = true)
    {g : JFrame} (hg : g.method = m) (hsize : g.locals.size = c.maxLocals) (hlocked : g.locked = none) (hentered : g.entered = []) {rest : List Value} (hstack : g.stack = msg :: .ref a :: .ref a :: rest)
    (hd6 : decode c.code g.pc = .ok (.invokespecial ic, 3)) (hd9 : decode c.code (g.pc + 3) = .ok (.athrow, 1)) (hout : ∀ x ∈ c.exceptionTable.toList, covers x (g.pc + 3) = false)
    (hRframes : names.length + 4 < R.frames) (hRlocals : 2 * g.monitorRoom + ((Value.ref a :: rest).map fun v => v.category).sum + (13 * (names.length + 2) + 42) ≤ R.locals) (hlocks : meth.locks = false) :
    ∃ U : State, Steps p.tables e below (Z9.setTop g) U ∧ U.status = .running ∧ Ended U below (.threw a) ∧ s.WarmedH U.vm ∧ s.sameButNew ({ U with vm := s.vm } : State) locs cells slots ∧
      ∃ ce, U.heap[a]? = some ce ∧ ce.vm = .none ∧ s.vm.findClass cls = some ce.cls := by
  have howns : e.platform.frameOwnsMonitors = true := by rw [X.admits.platform]
  have hfin : e.platform.finalization = false := by rw [X.admits.platform]
  have hpl : e.platform.magicAccessors = ({} : Platform).magicAccessors := by rw [X.admits.platform]
  have a' : ∀ x, x ∈ atG own ic cls Yn names ix b6 → x.holds args s none s [] = true := fun x hx => h x hx
  obtain ⟨T, Z0, L, -, Y⟩ := ThrowableC.of_atoms (args := args) howns hfin hpl (fun x hx => h x (by simp [atG, hx]))
  obtain ⟨Z, Mm, LZ, LM, hnZ⟩ := Init0T.ofS_atoms (args := args) hpl L Y (fun x hx => h x (by simp [atG, hx]))
  obtain ⟨P2, Ps, hlen, L2, hL, hP2m, hlink2, hlink⟩ := Bundle.chainS (args := args) hpl hnZ names Yn hYn hnames (fun x hx => h x (by simp [atG, hx]))
  obtain ⟨P1, L1, hP1m, hP1s⟩ := PassC.ofS_atoms (args := args) (s := s) hpl (X := cls) (Y := Yn) (Bundle.fit_spec hcls).1 (Bundle.fit_spec hYn).2 k0 k1 k2 k5 (fun x hx => h x (by simp [atG, hx]))
  have hlink1 : P1.sup = P2.m := Option.some.inj (hP1s.symm.trans hP2m)
  have hfound : s.vm.findClass cls = some P1.m.cls := findClass_of_methodNamed hP1m
  cases Option.some.inj (hfoundX.symm.trans hfound)
  obtain ⟨c1, kX', hc1, hk, hord, -, -, hn6⟩ := Cond.instantiable_spec (a' (.instantiable cls 6) (by simp [atG]))
  cases Option.some.inj (hc1.symm.trans hfound)
  cases Option.some.inj (hkX.symm.trans hk)
  have hsel0 : selectMethod e.platform s.vm P1.m.cls T.fill0 = .method T.fill0 := by
    obtain ⟨c2, r2, m2, q1, q2, q3, q4, -⟩ := Cond.selects_spec (a' (.selects cls Bundle.tFill0 Bundle.tFill0) (by simp [atG]))
    cases Option.some.inj (q1.symm.trans hfound)
    cases Option.some.inj (q2.symm.trans (State.methodFound?_of_named Y.fill0 (by decide)))
    cases Option.some.inj (q3.symm.trans Y.fill0)
    rw [Launch.admits_selectMethod X.admits]; exact q4
  have hselF : selectMethod e.platform s.vm P1.m.cls T.fill = .method T.fill := by
    obtain ⟨c2, r2, m2, q1, q2, q3, q4, -⟩ := Cond.selects_spec (a' (.selects cls Bundle.tFill Bundle.tFill) (by simp [atG]))
    cases Option.some.inj (q1.symm.trans hfound)
    cases Option.some.inj (q2.symm.trans (State.methodFound?_of_named Y.fill (by decide)))
    cases Option.some.inj (q3.symm.trans Y.fill)
    rw [Launch.admits_selectMethod X.admits]; exact q4
  obtain ⟨cellS0, hcS0, hiss⟩ := Y.statics
  obtain ⟨u0, hu0⟩ := Cond.staticRefV Y.unassigned L.unassignedStatic L.statics hcS0 hiss (a' (.isRef (.static Bundle.tN "UNASSIGNED_STACK" Bundle.steD)) (by simp [atG]))
  obtain ⟨sen, hsen⟩ := Cond.staticRefV Y.sentinel L.sentinelStatic L.statics hcS0 hiss (a' (.isRef (.static Bundle.tN "SUPPRESSED_SENTINEL" Bundle.listD)) (by simp [atG]))
  obtain ⟨ci198, i198, fB, hk198, hg198, ha198, hsB, -, hnB, htB, hffB⟩ := Cond.ownField (t := .object "java/lang/Object") Y.found L.cls (by decide +kernel) (a' (.fieldLink Bundle.tN 198 Bundle.tN "backtrace" "Ljava/lang/Object;") (by simp [atG])) (a' (.lays Bundle.tN Bundle.tN "backtrace" "Ljava/lang/Object;") (by simp [atG])) e.platform hpl
  obtain ⟨cellS, hcS', heS, -, hkeep⟩ := X.same.2.2.2.2.2 T.aS cellS0 hcS0
  have hcellS : Z9.heap[T.aS]? = some cellS := hcS'
  have hout' : ∀ i, (⟨T.aS, i⟩ : Loc) ∉ locs := fun i hmem => by
    have := hlocs _ hmem cellS0 hcS0
    rw [hiss] at this; cases this
  have hknownS : cellS.vm ≠ .unknown := by
    rw [heS]; intro hu
    rw [show cellS0.vm = .unknown from hu] at hiss
    cases hiss
  have hneS : T.aS ≠ a := Nat.ne_of_lt (Nat.lt_of_lt_of_le (Array.getElem?_eq_some_iff.mp hcS0).1 hnew)
  obtain ⟨iM, hffM⟩ := Y.msg
  obtain ⟨tyC, dC, hdC, hdnC⟩ := Cond.laysAt hfound hk Y.cause (a' (.lays cls Bundle.tN "cause" "Ljava/lang/Throwable;") (by simp [atG]))
  obtain ⟨tyS, dS, hdS, hdnS⟩ := Cond.laysAt hfound hk Y.stack (a' (.lays cls Bundle.tN "stackTrace" Bundle.steD) (by simp [atG]))
  obtain ⟨tyP, dP, hdP, hdnP⟩ := Cond.laysAt hfound hk Y.supp (a' (.lays cls Bundle.tN "suppressedExceptions" Bundle.listD) (by simp [atG]))
  obtain ⟨tyM, dM, hdM, hdnM⟩ := Cond.laysAt hfound hk hffM (a' (.lays cls Bundle.tN "detailMessage" "Ljava/lang/String;") (by simp [atG]))
  obtain ⟨tyB, dB, hdB, hdnB⟩ := Cond.laysAt hfound hk hffB (a' (.lays cls Bundle.tN "backtrace" "Ljava/lang/Object;") (by simp [atG]))
  have bC := Cond.laysApart hdB hdC hdnB hdnC (by rw [hnB, Y.causeName]; decide)
  have bS := Cond.laysApart hdB hdS hdnB hdnS (by rw [hnB, Y.stackName]; decide)
  have bP := Cond.laysApart hdB hdP hdnB hdnP (by rw [hnB, Y.suppName]; decide)
  have hskip : SkipFacts T e.platform s (fun u => u) u0 ((preparedCellV T.toThrowableT (freshCell P1.m.cls kX) a u0 sen).withEntry Z9.cur) :=
    ⟨{ ci198 := ci198, i198 := i198, fBack := fB }, ⟨hk198, hg198, ha198, hsB⟩, by
      have := fresh_default (c := P1.m.cls) tyB
      rw [htB] at this
      simpa [preparedCellV, Cell.setSlot, Cell.withEntry, Array.getElem?_setIfInBounds, bC, bS, bP, bC.symm, bS.symm, bP.symm, defaultValue] using this, fun _ _ => rfl⟩
  obtain ⟨tm, methC, cdC, kC, vm₁, hnC, -, -, -, -, -, -, -, hW₁, st1⟩ := Steps.initColdS (tb := p.tables) (e := e) (below := below) (s := s) (U := Z9) X.here hexec X.warmed hpl hown (t := Bundle.initS cls) rfl rfl (Bundle.fit_spec hcls).2
    (a' (.methodLink own ic (Bundle.initS cls)) (by simp [atG])) (h (.instanceMethod (Bundle.initS cls)) (by simp [atG, Bundle.passSAtoms])) (bytes := b6) (maxL := 2) (h (.code (Bundle.initS cls) b6 2 none) (by simp [atG, Bundle.passSAtoms]))
    (f := g) hg (a := a) (msg := msg) (rest := .ref a :: rest) hstack hd6
  cases Option.some.inj (hnC.symm.trans hP1m)
  have X₁ := X.noted hW₁
  obtain ⟨vm₂, X₂, st2⟩ := X₁.ctorMessageOffV hexec (g := { g with stack := .ref a :: rest }) hg hsize T L Z LZ Mm LM (P1 :: P2 :: Ps)
    (fun P hP => by
      rcases List.mem_cons.mp hP with rfl | hP
      · exact L1
      · rcases List.mem_cons.mp hP with rfl | hP
        · exact L2
        · exact hL P hP) ⟨hlink1, hlink2, hlink⟩ (u0 := u0) (sen := sen) (self := a) hmsg (cell := freshCell P1.m.cls kX) (cellS := cellS)
    hcell (fun _ => by simp) (by simp) rfl rfl hsel0 hselF hcellS hneS hknownS (by rw [hkeep _ (hout' _)]; exact hu0) (by rw [hkeep _ (hout' _)]; exact hsen)
    (Takes.of_laid hk hord tyC (by rw [Y.causeType]; rfl)) (Takes.of_laid hk hord tyS (by rw [Y.stackType]; exact fits_refV_array _ u0)) (Takes.of_laid hk hord tyP (by rw [Y.suppType]; exact fits_refV_object _ sen))
    (Takes.of_laid hk hord tyM (by rw [Y.msgType]; exact fits_refV_object _ ⟨msg, hmsg⟩)) Y.objLocals hskip htr [] hd6
    (by simp only [List.length_cons, hlen]; omega) (by simp only [List.length_cons, hlen]; exact hRlocals)
  obtain ⟨hwalk, hrun, hended, hWU, hsame⟩ := X₂.athrowLeaves hexec (g := { g with stack := .ref a :: rest, pc := g.pc + 3 }) hg hlocked hentered hout (a := a) (rest := rest) rfl hd9
  have hlt : a < ((Z9.setVm vm₁).setVm vm₂).heap.size := (Array.getElem?_eq_some_iff.mp hcell).1
  have hU := heapAt_setCell_self (s := (Z9.setVm vm₁).setVm vm₂) (plainBareV T.toThrowableT (freshCell P1.m.cls kX) a u0 sen msg) hlt
  refine ⟨_, st1 _ (fun acts => ?_), hrun, hended, hWU, hsame.weaken (fun y hy hlt' => ?_) (Nat.le_refl _) (Nat.le_refl _), _, hU, rfl, hfound⟩
  · rw [doInvoke_state]
    exact st2 _ hwalk
  · rcases List.mem_append.mp hy with h1 | h1
    · exact h1
    · exfalso
      have hb : y.base = a := by
        simp only [List.mem_cons, List.not_mem_nil, or_false] at h1
        rcases h1 with rfl | rfl | rfl | rfl | rfl <;> rfl
      rw [hb] at hlt'
      exact Nat.not_lt.mpr hnew hlt'
end
abbrev atN : List Cond := (atG RX3 156 "java/util/NoSuchElementException" "java/lang/RuntimeException" ["java/lang/Exception"] 13 prog_17_method_4_code).filter vx_no
set_option maxRecDepth 20000 in
theorem ea_N : ∀ w ∈ atN, w ∈ WL ∨ w ∈ NGl := by decide +kernel
set_option maxRecDepth 20000 in
theorem eg_N : ∀ w ∈ Cond.classLink RX3 152 "java/util/NoSuchElementException" :: Cond.initialized "java/util/NoSuchElementException" :: atN, vx_ot w = true := by decide +kernel
section
variable {p : Program} {l : Launch} {e : Env} {R : Room} {s : State} {m : MethodId} {args : Array Value} {below : List Frame} {meth : Method} {c : Code} {cc : ByteArray} {nL base : Nat} {own : String} {D : va_G} {ct : Nat → ClassId} {sa : Nat → Nat} {M : Mem} {k n pc : Nat} {lv : List (Nat × Value)} {st : List Value} {post : Option Value → Mem → Prop} {px : String → Mem → Prop} {mc ms : Nat}
set_option maxHeartbeats 4000000 in
/-- throw new NoSuchElementException("text") -/
theorem V_throwN (C : Cx p l s m args meth c cc nL own base D ct sa) (hx : ∀ x ∈ c.exceptionTable.toList, False) (hown9 : own = RX3) {tx : String} {is : Nat} (htx : (is, tx) ∈ strG)
    (d0 : decode cc pc = .ok (.new 152, 3)) (d3 : decode cc (pc + 3) = .ok (.dup, 1)) (d4 : decode cc (pc + 4) = .ok (.ldc is, 2)) (d6 : decode cc (pc + 6) = .ok (.invokespecial 156, 3)) (d9 : decode cc (pc + 9) = .ok (.athrow, 1))
    (hF : 5 < R.frames) (hLo : (st.map fun v => v.category).sum + 82 ≤ R.locals) (hk1 : k + 1 ≤ R.cells) (hs1 : n + 6 ≤ R.slots) (hc : k + 1 ≤ mc) (hs : n + 6 ≤ ms) (hp : px "java/util/NoSuchElementException" M) : VV p l e R s m args below meth c nL base D (QB base D post px below args s mc ms) M k n pc lv st := by
  intro H locs ls hW hS hL T hT X
  subst hown9
  obtain ⟨hexec, hb, e3, hown, e5, ⟨g1, g2, ⟨hU, hN⟩, g4, g5, g6, g7⟩, hlocks, hl⟩ := C
  have htr : e.platform.stackTraces = false := (show e.platform.stackTraces = l.stackTraces by rw [X.admits.platform]).trans hl
  have Y := vx_rebase X (R' := { frames := R.frames, locals := R.locals, cells := 1, slots := 6 }) (Nat.le_refl _) (Nat.le_refl _) hk1 hs1
  obtain ⟨s', hA⟩ : ∃ z, z = (T.setVm s.vm).setFrames (.invoking m args :: below) := ⟨_, rfl⟩
  rw [← hA] at Y
  have hvm : s'.vm = s.vm := by rw [hA]; rfl
  have hhp : s'.heap = H := by rw [hA]; exact hT
  have hW0 : s.WarmedH s'.vm := by rw [hvm]; exact State.WarmedH.refl s
  have hw0 : ∀ w ∈ Cond.classLink RX3 152 "java/util/NoSuchElementException" :: Cond.initialized "java/util/NoSuchElementException" :: atN, w.before args s' = true := fun w hw => vx_ot_at hW0 hvm.symm (eg_N w hw) (by
    rcases List.mem_cons.mp hw with rfl | hw
    · exact e5 _ cl_X3_152
    · rcases List.mem_cons.mp hw with rfl | hw
      · exact e5 _ ini_EN
      · rcases ea_N w hw with h | h
        · exact e5 _ h
        · exact va_Nw.use (NGl_on w h) (g4 w h))
  have hU' : vx_Zq Bundle.tN "UNASSIGNED_STACK" Bundle.steD (Ab base) s' s'.heap := by rw [hhp]; exact vx_Zq.moved hW0.alike (hU.kept hS.2.1)
  have hN' : vx_Zq Bundle.tN "SUPPRESSED_SENTINEL" Bundle.listD (Ab base) s' s'.heap := by rw [hhp]; exact vx_Zq.moved hW0.alike (hN.kept hS.2.1)
  have h : ∀ w ∈ atG RX3 156 "java/util/NoSuchElementException" "java/lang/RuntimeException" ["java/lang/Exception"] 13 prog_17_method_4_code, w.before args s' = true := vx_own (fun w hw => hw0 w (List.mem_cons_of_mem _ (List.mem_cons_of_mem _ hw))) (vx_isRefq hU'.1) (vx_isRefq hN'.1) hU'.2.word hN'.2.word
  have hown' : s'.vm.findClass RX3 = some m.cls := by rw [hvm]; exact hown
  have hins : (Cond.instantiable "java/util/NoSuchElementException" 6).before args s' = true := h _ (by simp [atG])
  obtain ⟨vm₁, cX, kX, hfX, hkX, -, -, X₁, st1⟩ := Y.newCold hexec (own := RX3) (C := "java/util/NoSuchElementException") (index := 152) (n := 6) hown' (hw0 _ List.mem_cons_self) hins (hw0 _ (List.mem_cons_of_mem _ List.mem_cons_self))
    (g := F0 m pc ls st) rfl (by rw [hb]; exact d0) (Nat.le_refl _) (Nat.le_refl _)
  generalize hT1 : (T.setVm vm₁).pushCell { cls := cX, slots := kX.instanceTypes.map defaultValue, vm := .none } = T1 at X₁ st1
  have hcat : (Value.ref T.heap.size).category = 1 := rfl
  have hcellA : T1.heap[T.heap.size]? = some (freshCell cX kX) := by rw [← hT1]; exact State.heap_pushCell_size _ _
  have d3' : decode c.code (pc + 3) = .ok (.dup, 1) := by rw [hb]; exact d3
  have d4' : decode c.code (pc + 4) = .ok (.ldc is, 2) := by rw [hb]; exact d4
  have hstr' : vk_R RX3 is tx (sa is) s' := vk_R.warm hW0 (g5 _ htx)
  obtain ⟨U, hsteps, hrun, hend, hWW, hsame, ce, hce, hcv, hcl⟩ := ctorThrowG X₁ hexec htr (own := RX3) (cls := "java/util/NoSuchElementException") (Yn := "java/lang/RuntimeException") (names := ["java/lang/Exception"]) (ic := 156) (ix := 13) (b6 := prog_17_method_4_code) hown' (by decide +kernel) (by decide +kernel) (by decide +kernel) (by decide +kernel) (by decide +kernel) (by decide +kernel) (by decide +kernel) h (fun x hx => nomatch hx) hfX hkX hcellA (by rw [hhp, hT]; exact Nat.le_refl _) (msg := .ref (sa is)) rfl
    (g := { method := m, pc := pc + 6, locals := ls, stack := .ref (sa is) :: .ref T.heap.size :: .ref T.heap.size :: st, locked := none }) rfl (hL.1.trans e3.symm) rfl rfl (rest := st) rfl
    (by rw [hb]; exact d6) (by rw [hb]; exact d9) (fun x h => (hx x h).elim) (by simpa using hF) (by simp only [List.map_cons, List.sum_cons, hcat, List.length_cons, List.length_nil, JFrame.monitorRoom]; simp; omega) hlocks
  obtain ⟨f1, f2⟩ := vx_frame hsame
  rw [hhp] at f1 f2
  have f2' : ∀ q : Nat, q < H.size → U.heap[q]? = H[q]? := fun q hq => f2 q hq (fun z hz => nomatch hz)
  have hWs : s.WarmedH U.vm := State.WarmedH.trans hW0 hWW
  have hcl' : s.vm.findClass "java/util/NoSuchElementException" = some ce.cls := by rw [hvm] at hcl; exact hcl
  have hall : s.sameButNew ({ U with vm := s.vm } : State) locs mc ms := by
    subst hA
    obtain ⟨e1, e2⟩ := hsame
    rw [State.setFrames_setFrames] at e1
    have h2 : (T.setVm s.vm).sameButNew ({ U with vm := s.vm } : State) [] (0 + 1) (0 + 6) := ⟨e1, e2⟩
    have h3 := X.same.trans h2
    rw [List.append_nil] at h3
    exact h3.mono hc hs
  have hPX : PX base D px "java/util/NoSuchElementException" s U := by
    refine ⟨M, hp, ?_, ?_⟩
    · obtain ⟨L, f, q1, q2, q3⟩ := hW
      exact ⟨L, f, q1, q2.kept (fun j q hq => f2' q.1 (q2 j q hq).lt), q3⟩
    · exact ⟨Nat.le_trans hS.1 f1, fun q hq hA => by rw [f2' q (Nat.lt_of_lt_of_le hq hS.1)]; exact hS.2.1 q hq hA⟩
  refine ⟨U, ?_, .threw T.heap.size, hrun, hend, Or.inr ⟨T.heap.size, rfl, _, ce, locs, hPX, hce, hcv, hcl', hWs, hall, hS.2.2⟩⟩
  refine st1 _ ?_
  show Steps p.tables e below (T1.setTop { method := m, pc := pc + 3, locals := ls, stack := .ref T.heap.size :: st, locked := none }) _
  jvm_step X₁.here [X₁.here.top, hexec, d3', Value.category]
  exact X₁.ldcString hexec (own := RX3) (text := tx) (index := is) (a := sa is) hown' hstr'.1 hstr'.2
    (g := { method := m, pc := pc + 4, locals := ls, stack := .ref T.heap.size :: .ref T.heap.size :: st, locked := none }) rfl d4' _ hsteps
end
end
section
/-! rows with indices as numbers, tops of the stack rewritten, increments -/
theorem ne_tag {α : Type} {G : Nat → α} {a b : Nat} {s t : α} (h : G a = s) (h2 : G b = t) (d : s ≠ t) : a ≠ b := fun e => d (by rw [← h, e]; exact h2)
theorem vp_inN {j N : Nat} (h : j < N) (hN : N < 2 ^ 31) : vp_in (nI j) N := vp_in_nI h hN
section
variable {p : Program} {l : Launch} {e : Env} {R : Room} {s : State} {m : MethodId} {args : Array Value} {below : List Frame} {meth : Method} {c : Code} {cc : ByteArray} {nL base : Nat} {own : String} {D : va_G} {ct : Nat → ClassId} {sa : Nat → Nat} {Q : State → Prop} {M : Mem} {k n pc : Nat} {lv : List (Nat × Value)} {st : List Value}
theorem V_top {x y : Int32} (h : x = y) (kk : VV p l e R s m args below meth c nL base D Q M k n pc lv (.int y :: st)) : VV p l e R s m args below meth c nL base D Q M k n pc lv (.int x :: st) := by
  subst h; exact kk
theorem V_top2 {x y : Int32} {w : Value} (h : x = y) (kk : VV p l e R s m args below meth c nL base D Q M k n pc lv (w :: .int y :: st)) : VV p l e R s m args below meth c nL base D Q M k n pc lv (w :: .int x :: st) := by
  subst h; exact kk
theorem V_topv {x y : Value} (h : x = y) (kk : VV p l e R s m args below meth c nL base D Q M k n pc lv (y :: st)) : VV p l e R s m args below meth c nL base D Q M k n pc lv (x :: st) := by
  subst h; exact kk
theorem V_inc1 (C : Cx p l s m args meth c cc nL own base D ct sa) {i : Nat} {x : Int32} (hd : decode cc pc = .ok (.iinc i 1, 3)) (hl : lget lv i = some (.int x)) (hn : i < nL) (kk : VV p l e R s m args below meth c nL base D Q M k n (pc + 3) (lset lv i (.int (x + 1))) st) : VV p l e R s m args below meth c nL base D Q M k n pc lv st := V_iinc C hd hl rfl hn kk
theorem V_incm (C : Cx p l s m args meth c cc nL own base D ct sa) {i : Nat} {x : Int32} (hd : decode cc pc = .ok (.iinc i (-1), 3)) (hl : lget lv i = some (.int x)) (hn : i < nL) (kk : VV p l e R s m args below meth c nL base D Q M k n (pc + 3) (lset lv i (.int (x + (-1)))) st) : VV p l e R s m args below meth c nL base D Q M k n pc lv st := V_iinc C hd hl rfl hn kk
theorem N_iald (C : Cx p l s m args meth c cc nL own base D ct sa) {a N j : Nat} {f : Nat → Int32} (hm : M a = some (.inl (ct 0, N, .inl f))) (hj : j < N) (hN : N < 2 ^ 31) (hd : decode cc pc = .ok (.iaload, 1)) (kk : VV p l e R s m args below meth c nL base D Q M k n (pc + 1) lv (.int (f j) :: st)) : VV p l e R s m args below meth c nL base D Q M k n pc lv (.int (nI j) :: .ref a :: st) := by
  refine V_iald C hm (vp_inN hj hN) hd ?_
  rw [nI_clamp (Nat.lt_trans hj hN)]
  exact kk
theorem N_zald (C : Cx p l s m args meth c cc nL own base D ct sa) {a N j : Nat} {f : Nat → Int32} (hm : M a = some (.inl (ct 1, N, .inl f))) (hj : j < N) (hN : N < 2 ^ 31) (hd : decode cc pc = .ok (.baload, 1)) (kk : VV p l e R s m args below meth c nL base D Q M k n (pc + 1) lv (.int (f j) :: st)) : VV p l e R s m args below meth c nL base D Q M k n pc lv (.int (nI j) :: .ref a :: st) := by
  refine V_zald C hm (vp_inN hj hN) hd ?_
  rw [nI_clamp (Nat.lt_trans hj hN)]
  exact kk
theorem N_lald (C : Cx p l s m args meth c cc nL own base D ct sa) {a N j : Nat} {f : Nat → Int64} (hm : M a = some (.inl (ct 2, N, .inr (.inl f)))) (hj : j < N) (hN : N < 2 ^ 31) (hd : decode cc pc = .ok (.laload, 1)) (kk : VV p l e R s m args below meth c nL base D Q M k n (pc + 1) lv (.long (f j) :: st)) : VV p l e R s m args below meth c nL base D Q M k n pc lv (.int (nI j) :: .ref a :: st) := by
  refine V_lald C hm (vp_inN hj hN) hd ?_
  rw [nI_clamp (Nat.lt_trans hj hN)]
  exact kk
theorem N_aldS (C : Cx p l s m args meth c cc nL own base D ct sa) {a N j b : Nat} {f : Nat → Option Nat} (hm : M a = some (.inl (ct 3, N, .inr (.inr (.inr (.inr f)))))) (hj : j < N) (hN : N < 2 ^ 31) (hf : f j = some b) (hd : decode cc pc = .ok (.aaload, 1)) (kk : VV p l e R s m args below meth c nL base D Q M k n (pc + 1) lv (.ref b :: st)) : VV p l e R s m args below meth c nL base D Q M k n pc lv (.int (nI j) :: .ref a :: st) := by
  refine V_aldS C hm (vp_inN hj hN) hd ?_
  rw [nI_clamp (Nat.lt_trans hj hN), hf]
  exact kk
theorem N_aldT (C : Cx p l s m args meth c cc nL own base D ct sa) {a N j b : Nat} {f : Nat → Option Nat} (hm : M a = some (.inl (ct 4, N, .inr (.inr (.inr (.inr f)))))) (hj : j < N) (hN : N < 2 ^ 31) (hf : f j = some b) (hd : decode cc pc = .ok (.aaload, 1)) (kk : VV p l e R s m args below meth c nL base D Q M k n (pc + 1) lv (.ref b :: st)) : VV p l e R s m args below meth c nL base D Q M k n pc lv (.int (nI j) :: .ref a :: st) := by
  refine V_aldT C hm (vp_inN hj hN) hd ?_
  rw [nI_clamp (Nat.lt_trans hj hN), hf]
  exact kk
theorem N_aldU (C : Cx p l s m args meth c cc nL own base D ct sa) {a N j b : Nat} {f : Nat → Option Nat} (hm : M a = some (.inl (ct 5, N, .inr (.inr (.inr (.inr f)))))) (hj : j < N) (hN : N < 2 ^ 31) (hf : f j = some b) (hd : decode cc pc = .ok (.aaload, 1)) (kk : VV p l e R s m args below meth c nL base D Q M k n (pc + 1) lv (.ref b :: st)) : VV p l e R s m args below meth c nL base D Q M k n pc lv (.int (nI j) :: .ref a :: st) := by
  refine V_aldU C hm (vp_inN hj hN) hd ?_
  rw [nI_clamp (Nat.lt_trans hj hN), hf]
  exact kk
theorem N_iast (C : Cx p l s m args meth c cc nL own base D ct sa) {a N j : Nat} {f : Nat → Int32} {x : Int32} (hm : M a = some (.inl (ct 0, N, .inl f))) (hj : j < N) (hN : N < 2 ^ 31) (hd : decode cc pc = .ok (.iastore, 1)) (kk : VV p l e R s m args below meth c nL base D Q (mput M a (.inl (ct 0, N, .inl (upd f j x)))) k n (pc + 1) lv st) : VV p l e R s m args below meth c nL base D Q M k n pc lv (.int x :: .int (nI j) :: .ref a :: st) := by
  refine V_iast C hm (vp_inN hj hN) hd ?_
  rw [nI_clamp (Nat.lt_trans hj hN)]
  exact kk
theorem N_last (C : Cx p l s m args meth c cc nL own base D ct sa) {a N j : Nat} {f : Nat → Int64} {x : Int64} (hm : M a = some (.inl (ct 2, N, .inr (.inl f)))) (hj : j < N) (hN : N < 2 ^ 31) (hd : decode cc pc = .ok (.lastore, 1)) (kk : VV p l e R s m args below meth c nL base D Q (mput M a (.inl (ct 2, N, .inr (.inl (vp_updL f j x))))) k n (pc + 1) lv st) : VV p l e R s m args below meth c nL base D Q M k n pc lv (.long x :: .int (nI j) :: .ref a :: st) := by
  refine V_last C hm (vp_inN hj hN) hd ?_
  rw [nI_clamp (Nat.lt_trans hj hN)]
  exact kk
theorem N_zast (C : Cx p l s m args meth c cc nL own base D ct sa) {a N j : Nat} {f : Nat → Int32} {x : Int32} (hm : M a = some (.inl (ct 1, N, .inl f))) (hj : j < N) (hN : N < 2 ^ 31) (hd : decode cc pc = .ok (.bastore, 1)) (kk : VV p l e R s m args below meth c nL base D Q (mput M a (.inl (ct 1, N, .inl (upd f j (vp_nar .boolean x))))) k n (pc + 1) lv st) : VV p l e R s m args below meth c nL base D Q M k n pc lv (.int x :: .int (nI j) :: .ref a :: st) := by
  refine V_zast C hm (vp_inN hj hN) hd ?_
  rw [nI_clamp (Nat.lt_trans hj hN)]
  exact kk
theorem N_aastS (C : Cx p l s m args meth c cc nL own base D ct sa) {a N j : Nat} {f : Nat → Option Nat} {x : Nat} {vs : List Value} (hx : M x = some (.inr (1, vs))) (hm : M a = some (.inl (ct 3, N, .inr (.inr (.inr (.inr f)))))) (hj : j < N) (hN : N < 2 ^ 31) (hd : decode cc pc = .ok (.aastore, 1)) (kk : VV p l e R s m args below meth c nL base D Q (mput M a (.inl (ct 3, N, .inr (.inr (.inr (.inr (va_up f j (some x)))))))) k n (pc + 1) lv st) : VV p l e R s m args below meth c nL base D Q M k n pc lv (.ref x :: .int (nI j) :: .ref a :: st) := by
  refine V_aastS C hm hx (vp_inN hj hN) hd ?_
  rw [nI_clamp (Nat.lt_trans hj hN)]
  exact kk
theorem N_aastT (C : Cx p l s m args meth c cc nL own base D ct sa) {a N j : Nat} {f : Nat → Option Nat} {x : Nat} {vs : List Value} (hx : M x = some (.inr (2, vs))) (hm : M a = some (.inl (ct 4, N, .inr (.inr (.inr (.inr f)))))) (hj : j < N) (hN : N < 2 ^ 31) (hd : decode cc pc = .ok (.aastore, 1)) (kk : VV p l e R s m args below meth c nL base D Q (mput M a (.inl (ct 4, N, .inr (.inr (.inr (.inr (va_up f j (some x)))))))) k n (pc + 1) lv st) : VV p l e R s m args below meth c nL base D Q M k n pc lv (.ref x :: .int (nI j) :: .ref a :: st) := by
  refine V_aastT C hm hx (vp_inN hj hN) hd ?_
  rw [nI_clamp (Nat.lt_trans hj hN)]
  exact kk
theorem N_copy (C : Cx p l s m args meth c cc nL own base D ct sa) {a b N0 N1 index sp dp z : Nat} {f g : Nat → Int32} (ha : M a = some (.inl (ct 0, N0, .inl f))) (hb : M b = some (.inl (ct 0, N1, .inl g))) (hl : Cond.methodLink own index arraycopyName ∈ WL) (h4 : sp + z ≤ N0) (h5 : dp + z ≤ N1) (hN0 : N0 < 2 ^ 31) (hN1 : N1 < 2 ^ 31) (hf : 1 ≤ R.frames) (hlo : (st.map fun v => v.category).sum + (nativeFrameWords "java/lang/System" "arraycopy" 5 + 11) ≤ R.locals) (hd : decode cc pc = .ok (.invokestatic index, 3)) (kk : VV p l e R s m args below meth c nL base D Q (mput M b (.inl (ct 0, N1, .inl (va_cpy f g sp dp z)))) k n (pc + 3) lv st) : VV p l e R s m args below meth c nL base D Q M k n pc lv (.int (nI z) :: .int (nI dp) :: .ref b :: .int (nI sp) :: .ref a :: st) := by
  have b1 : sp < 2 ^ 31 := by omega
  have b2 : dp < 2 ^ 31 := by omega
  have b3 : z < 2 ^ 31 := by omega
  refine V_copy C ha hb hl na_copy st_copy ini_Sys (nI_pos b1) (nI_pos b2) (nI_pos b3) (by rw [nI_clamp b1, nI_clamp b3]; exact h4) (by rw [nI_clamp b2, nI_clamp b3]; exact h5) hf hlo hd ?_
  rw [nI_clamp b1, nI_clamp b2, nI_clamp b3]
  exact kk
end
end
section
/-! THE STATE, in my words. A state σ : numbers σ.1 field place, values σ.2 field place; what each call answers and makes of it; how the class and the reference hold it -/
abbrev Sg : Type := (Nat → Nat → Nat) × (Nat → Nat → Int32)
abbrev gMade (σ : Sg) : Nat := σ.1 0 0
abbrev gAlive (σ : Sg) : Nat := σ.1 1 0
abbrev gThere (σ : Sg) (o : Nat) : Nat := σ.1 2 o
abbrev gGlob (σ : Sg) (o : Nat) : Nat := σ.1 3 o
abbrev gSv (σ : Sg) : Nat := σ.1 4 0
abbrev gLast (σ : Sg) : Nat := σ.1 5 0
abbrev gDeep (σ : Sg) : Nat := σ.1 6 0
abbrev gNum (σ : Sg) (k : Nat) : Nat := σ.1 7 k
abbrev gFst (σ : Sg) (k : Nat) : Nat := σ.1 8 k
abbrev gRb (σ : Sg) (k : Nat) : Nat := σ.1 9 k
abbrev gSb (σ : Sg) (k : Nat) : Nat := σ.1 10 k
abbrev gRows (σ : Sg) : Nat := σ.1 11 0
abbrev gPl (σ : Sg) (r : Nat) : Nat := σ.1 12 r
abbrev gSt (σ : Sg) : Nat := σ.1 13 0
abbrev gCe (σ : Sg) (j : Nat) : Int32 := σ.2 0 j
abbrev gOc (σ : Sg) (j : Nat) : Int32 := σ.2 1 j
abbrev gPa (σ : Sg) (j : Nat) : Int32 := σ.2 2 j
abbrev gHad (σ : Sg) (j : Nat) : Int32 := σ.2 3 j
abbrev gVal (σ : Sg) (j : Nat) : Int32 := σ.2 4 j
abbrev gPu (σ : Sg) (j : Nat) : Int32 := σ.2 5 j
/-- field f becomes g -/
def sf (σ : Sg) (f : Nat) (g : Nat → Nat) : Sg := (fun f' => if f' = f then g else σ.1 f', σ.2)
def sw (σ : Sg) (f : Nat) (g : Nat → Int32) : Sg := (σ.1, fun f' => if f' = f then g else σ.2 f')
def sk (n : Nat) : Nat → Nat := fun _ => n
theorem sf_1 (σ : Sg) (f f' : Nat) (g : Nat → Nat) : (sf σ f g).1 f' = if f' = f then g else σ.1 f' := rfl
theorem sf_2 (σ : Sg) (f : Nat) (g : Nat → Nat) : (sf σ f g).2 = σ.2 := rfl
theorem sw_1 (σ : Sg) (f : Nat) (g : Nat → Int32) : (sw σ f g).1 = σ.1 := rfl
theorem sw_2 (σ : Sg) (f f' : Nat) (g : Nat → Int32) : (sw σ f g).2 f' = if f' = f then g else σ.2 f' := rfl
theorem sk_a (n j : Nat) : sk n j = n := rfl
/-- there is such an object; a value is a number or refers to one -/
def isO (σ : Sg) (k : Int32) : Bool := decide (0 ≤ k ∧ k.toNatClampNeg < gMade σ ∧ gThere σ k.toNatClampNeg = 1)
def isV (σ : Sg) (v : Int32) : Bool := decide (0 ≤ v) || isO σ (-1 - v)
def isN (n : Nat) (i : Int32) : Bool := decide (0 ≤ i ∧ i.toNatClampNeg < n)
def rfOf (v : Int32) : Nat := (-1 - v).toNatClampNeg
/-- a row for the place c among lo .. hi - 1 -/
def hasR (σ : Sg) (lo hi c : Nat) : Bool := (List.range hi).any (fun r => decide (lo ≤ r) && decide (gPl σ r = c))
theorem hasR_iff {σ : Sg} {lo hi c : Nat} : hasR σ lo hi c = true ↔ ∃ r, lo ≤ r ∧ r < hi ∧ gPl σ r = c := by
  simp only [hasR, List.any_eq_true, List.mem_range, Bool.and_eq_true, decide_eq_true_eq]
  exact ⟨fun ⟨r, h1, h2, h3⟩ => ⟨r, h2, h1, h3⟩, fun ⟨r, h1, h2, h3⟩ => ⟨r, h2, h1, h3⟩⟩
/-- the rows of save k are rbx k .. rbx (k + 1) - 1 -/
def rbx (σ : Sg) (k : Nat) : Nat := if k < gSv σ then gRb σ k else gRows σ
/-- the number of the latest save below k that has a row for c; 0: none -/
def ownr (σ : Sg) : Nat → Nat → Nat
  | 0, _ => 0
  | k + 1, c => if hasR σ (rbx σ k) (rbx σ (k + 1)) c then gNum σ k else ownr σ k c
/-- what a call does: the number of its exception (0: none), its answer, the state behind it -/
def oObject (σ : Sg) (g : Int32) : Nat × Int32 × Sg :=
  if gAlive σ = 200 then (1, 0, σ) else (0, nI (gMade σ), sf (sf (sf (sf σ 2 (va_up (σ.1 2) (gMade σ) 1)) 3 (va_up (σ.1 3) (gMade σ) (if g = 0 then 0 else 1))) 1 (sk (gAlive σ + 1))) 0 (sk (gMade σ + 1)))
def kept (σ : Sg) (o c : Nat) : Bool := decide (0 < gSv σ ∧ gGlob σ o = 0 ∧ o < gFst σ (gSv σ - 1)) && !hasR σ (gRb σ (gSv σ - 1)) (gRows σ) c
def doKeep (σ : Sg) (c : Nat) : Sg := sf (sw (sf σ 12 (va_up (σ.1 12) (gRows σ) c)) 4 (va_up (σ.2 4) (gRows σ) (gCe σ c))) 11 (sk (gRows σ + 1))
def oPut (σ : Sg) (o i v : Int32) : Nat × Int32 × Sg :=
  if isO σ o = false ∨ isV σ v = false then (1, 0, σ) else if isN 8 i = false then (2, 0, σ) else if gGlob σ o.toNatClampNeg = 1 ∧ v < 0 ∧ gGlob σ (rfOf v) = 0 then (3, 0, σ) else
  (0, gCe σ (8 * o.toNatClampNeg + i.toNatClampNeg), sw (if kept σ o.toNatClampNeg (8 * o.toNatClampNeg + i.toNatClampNeg) then doKeep σ (8 * o.toNatClampNeg + i.toNatClampNeg) else σ) 0 (va_up (σ.2 0) (8 * o.toNatClampNeg + i.toNatClampNeg) v))
def oGet (σ : Sg) (o i : Int32) : Nat × Int32 × Sg :=
  if isO σ o = false then (1, 0, σ) else if isN 8 i = false then (2, 0, σ) else (0, gCe σ (8 * o.toNatClampNeg + i.toNatClampNeg), σ)
def oSave (σ : Sg) : Nat × Int32 × Sg :=
  if gSv σ = 16 then (1, 0, σ) else (0, nI (gLast σ + 1), sf (sf (sw (sf (sf (sf (sf (sf σ 5 (sk (gLast σ + 1))) 7 (va_up (σ.1 7) (gSv σ) (gLast σ + 1))) 8 (va_up (σ.1 8) (gSv σ) (gMade σ))) 9 (va_up (σ.1 9) (gSv σ) (gRows σ))) 10 (va_up (σ.1 10) (gSv σ) (gSt σ))) 3 (va_cpy (σ.2 2) (σ.2 3) 0 (10 * gSv σ) 10)) 4 (sk (gSv σ + 1))) 6 (sk (max (gDeep σ) (gSv σ + 1))))
def isLv (σ : Sg) (n : Int32) : Bool := (List.range (gSv σ)).any (fun k => decide (nI (gNum σ k) = n))
def isNw (σ : Sg) (v : Int32) (f : Nat) : Bool := decide (v < 0 ∧ f ≤ rfOf v ∧ gGlob σ (rfOf v) = 0)
/-- the cells behind a restore of the rows lo .. hi - 1 -/
def undo (σ : Sg) (lo : Nat) : Nat → Nat → Int32
  | 0 => σ.2 0
  | n + 1 => va_up (undo σ lo n) (gPl σ (lo + n)) (gVal σ (lo + n))
def goneC (σ : Sg) (f : Nat) : Nat → Nat
  | 0 => 0
  | n + 1 => goneC σ f n + (if gThere σ (f + n) = 1 ∧ gGlob σ (f + n) = 0 then 1 else 0)
def doRestore (σ : Sg) (k : Nat) : Sg :=
  sf (sw (sf (sf (sf (sf (sw σ 0 (undo σ (gRb σ k) (gRows σ - gRb σ k))) 11 (sk (gRb σ k))) 13 (sk (gSb σ k))) 2 (fun o => if gFst σ k ≤ o ∧ o < gMade σ ∧ gGlob σ o = 0 then 0 else gThere σ o)) 1 (sk (gAlive σ - goneC σ (gFst σ k) (gMade σ - gFst σ k)))) 2 (va_cpy (σ.2 3) (σ.2 2) (10 * k) 0 8)) 4 (sk k)
def oRestore (σ : Sg) (n : Int32) : Int32 × Sg :=
  if n < 1 ∨ nI (gLast σ) < n then (-1, σ) else if isLv σ n = false then (-2, σ) else if nI (gNum σ (gSv σ - 1)) ≠ n then (-3, σ) else if isNw σ (gPa σ 8) (gFst σ (gSv σ - 1)) = true ∨ isNw σ (gPa σ 9) (gFst σ (gSv σ - 1)) = true then (-4, σ) else (1, doRestore σ (gSv σ - 1))
def oState (σ : Sg) (w v : Int32) : Nat × Int32 × Sg :=
  if isV σ v = false then (1, 0, σ) else if isN 10 w = false then (2, 0, σ) else (0, gPa σ w.toNatClampNeg, sw σ 2 (va_up (σ.2 2) w.toNatClampNeg v))
def oStateOf (σ : Sg) (w : Int32) : Nat × Int32 × Sg := if isN 10 w = false then (1, 0, σ) else (0, gPa σ w.toNatClampNeg, σ)
def ownS (σ : Sg) : Nat := if gSv σ = 0 then gSt σ else gSt σ - gSb σ (gSv σ - 1)
def oPush (σ : Sg) : Nat × Int32 × Sg :=
  if gSt σ = 30 then (1, 0, σ) else (0, nI (ownS σ + 1), sf (sw σ 5 (va_cpy (σ.2 2) (σ.2 5) 0 (8 * gSt σ) 8)) 13 (sk (gSt σ + 1)))
def oPop (σ : Sg) : Int32 × Sg :=
  if ownS σ = 0 then (-1, σ) else (nI (ownS σ - 1), sw (sf σ 13 (sk (gSt σ - 1))) 2 (va_cpy (σ.2 5) (σ.2 2) (8 * (gSt σ - 1)) 0 8))
def oBytes (σ : Sg) (o i v : Int32) : Nat × Int32 × Sg :=
  if isO σ o = false then (1, 0, σ) else if isN 8 i = false ∨ v < -1 ∨ 255 < v then (2, 0, σ) else
  (0, gOc σ (8 * o.toNatClampNeg + i.toNatClampNeg), sw σ 1 (va_up (σ.2 1) (8 * o.toNatClampNeg + i.toNatClampNeg) (if 0 ≤ v then v else gOc σ (8 * o.toNatClampNeg + i.toNatClampNeg))))
def oUsed (σ : Sg) : Int32 := nI (12 * gAlive σ + 3 * gRows σ + 6 * gSv σ + 10 * gSt σ)
def newS (σ : Sg) (o : Nat) : Nat → Nat
  | 0 => 0
  | k + 1 => newS σ o k + (if gFst σ k ≤ o then 1 else 0)
def oOld (σ : Sg) (o : Int32) : Nat × Int32 × Sg := if isO σ o = false then (1, 0, σ) else (0, nI (newS σ o.toNatClampNeg (gSv σ)), σ)
/-- what holds of σ behind at most B calls -/
def Inv (B : Nat) (σ : Sg) : Prop :=
  (gMade σ ≤ B ∧ gRows σ ≤ B ∧ gLast σ ≤ B ∧ gAlive σ ≤ 200 ∧ gSv σ ≤ 16 ∧ gSt σ ≤ 30 ∧ gSv σ ≤ gDeep σ ∧ gDeep σ ≤ 16) ∧
  ((∀ o, gThere σ o ≤ 1) ∧ (∀ o, gGlob σ o ≤ 1) ∧ (∀ o, gThere σ o = 1 → o < gMade σ) ∧ (∀ j, 8 * gMade σ ≤ j → gCe σ j = 0 ∧ gOc σ j = 0)) ∧
  ((∀ k, k < gSv σ → 1 ≤ gNum σ k ∧ gNum σ k ≤ gLast σ) ∧ (∀ j k, j < k → k < gSv σ → gNum σ j < gNum σ k) ∧ (∀ k, k < gSv σ → gFst σ k ≤ gMade σ) ∧ (∀ j k, j ≤ k → k < gSv σ → gFst σ j ≤ gFst σ k)) ∧
  ((∀ k, k < gSv σ → gRb σ k ≤ gRows σ) ∧ (∀ j k, j ≤ k → k < gSv σ → gRb σ j ≤ gRb σ k) ∧ (∀ k, k < gSv σ → gSb σ k ≤ gSt σ) ∧ (∀ j k, j ≤ k → k < gSv σ → gSb σ j ≤ gSb σ k) ∧ (gSv σ = 0 → gRows σ = 0) ∧ (0 < gSv σ → gRb σ 0 = 0)) ∧
  ((isV σ (gPa σ 8) = true ∧ isV σ (gPa σ 9) = true) ∧ ∀ k r r', k < gSv σ → rbx σ k ≤ r → r < r' → r' < rbx σ (k + 1) → gPl σ r ≠ gPl σ r') ∧
  (∀ k r, k < gSv σ → rbx σ k ≤ r → r < rbx σ (k + 1) → gPl σ r / 8 < gFst σ k ∧ gThere σ (gPl σ r / 8) = 1 ∧ gGlob σ (gPl σ r / 8) = 0)
/-- an int array of N places that holds g; of booleans -/
def arI (ct : Nat → ClassId) (M : Mem) (a N : Nat) (g : Nat → Int32) : Prop := ∃ f, M a = some (.inl (ct 0, N, .inl f)) ∧ ∀ j, j < N → f j = g j
def arZ (ct : Nat → ClassId) (M : Mem) (a N : Nat) (g : Nat → Int32) : Prop := ∃ f, M a = some (.inl (ct 1, N, .inl f)) ∧ ∀ j, j < N → f j = g j
def nF (g : Nat → Nat) : Nat → Int32 := fun j => nI (g j)
/-- the class's own cell -/
abbrev xE (A : Nat → Nat → Nat) (σ : Sg) : va_E := .inr (3, [.ref (A 1 0), .int (nI (gAlive σ)), .int (nI (gMade σ)), .ref (A 2 0), .int (nI (gSv σ)), .int (nI (gLast σ)), .int (nI (gDeep σ)), .ref (A 3 0), .ref (A 4 0), .int (nI (gSt σ))])
abbrev tE (A : Nat → Nat → Nat) (σ : Sg) (o : Nat) : va_E := .inr (2, [.int (nI o), .int (nI (gGlob σ o)), .ref (A 9 o), .ref (A 10 o), .ref (A 11 o)])
/-- the objects that are there, in order -/
def RepO (ob : Nat → Nat) (σ : Sg) : Prop := (∀ j, j < gAlive σ → ob j < gMade σ ∧ gThere σ (ob j) = 1) ∧ (∀ i j, i < j → j < gAlive σ → ob i < ob j) ∧ (∀ o, o < gMade σ → gThere σ o = 1 → ∃ j, j < gAlive σ ∧ ob j = o)
/-- the class's arrays -/
def RepA (ct : Nat → ClassId) (A : Nat → Nat → Nat) (ob : Nat → Nat) (σ : Sg) (M : Mem) : Prop :=
  (∃ tf, M (A 1 0) = some (.inl (ct 4, 200, .inr (.inr (.inr (.inr tf))))) ∧ ∀ j, j < gAlive σ → tf j = some (A 8 (ob j))) ∧
  (∃ sf, M (A 2 0) = some (.inl (ct 3, 16, .inr (.inr (.inr (.inr sf))))) ∧ ∀ k, k < 16 → sf k = some (A 6 k)) ∧
  arI ct M (A 3 0) 10 (σ.2 2) ∧
  (∃ uf, M (A 4 0) = some (.inl (ct 5, 30, .inr (.inr (.inr (.inr uf))))) ∧ ∀ k, k < 30 → uf k = some (A 5 k)) ∧
  (∀ k, k < 30 → ∃ f, M (A 5 k) = some (.inl (ct 0, 8, .inl f)) ∧ (k < gSt σ → ∀ j, j < 8 → f j = gPu σ (8 * k + j)))
/-- an object -/
def RepT (ct : Nat → ClassId) (A : Nat → Nat → Nat) (σ : Sg) (M : Mem) (o : Nat) : Prop :=
  M (A 8 o) = some (tE A σ o) ∧ arI ct M (A 9 o) 8 (fun i => gCe σ (8 * o + i)) ∧ arI ct M (A 10 o) 8 (fun i => gOc σ (8 * o + i)) ∧ arI ct M (A 11 o) 8 (fun i => nI (ownr σ (gSv σ) (8 * o + i)))
abbrev sE (A : Nat → Nat → Nat) (σ : Sg) (k : Nat) (n f p : Int32) (rows : Option Nat) (rc : Int32) : va_E := .inr (1, [.int n, .int f, .int p, .ref (A 7 k), va_rf rows, .int rc])
def rowOf (A : Nat → Nat → Nat) (lo hi : Nat) : Option Nat := if lo < hi then some (A 12 (hi - 1)) else none
/-- a save -/
def RepS (ct : Nat → ClassId) (A : Nat → Nat → Nat) (σ : Sg) (M : Mem) (k : Nat) : Prop :=
  (k < gSv σ → M (A 6 k) = some (sE A σ k (nI (gNum σ k)) (nI (gFst σ k)) (nI (gSb σ k)) (rowOf A (rbx σ k) (rbx σ (k + 1))) (nI (rbx σ (k + 1) - rbx σ k))) ∧ arI ct M (A 7 k) 8 (fun j => gHad σ (10 * k + j))) ∧
  (gSv σ ≤ k → ∃ n f p g, M (A 6 k) = some (sE A σ k n f p none 0) ∧ M (A 7 k) = some (.inl (ct 0, 8, .inl g)))
/-- a row -/
def RepR (A : Nat → Nat → Nat) (σ : Sg) (M : Mem) (k r : Nat) : Prop :=
  M (A 12 r) = some (.inr (0, [.ref (A 8 (gPl σ r / 8)), .int (nI (gPl σ r % 8)), .int (gVal σ r), .int (nI (ownr σ k (gPl σ r))), va_rf (rowOf A (rbx σ k) r)]))
/-- whose cell an address is -/
def RepG (A : Nat → Nat → Nat) (G : Nat → Nat) (σ : Sg) (x : Nat) : Prop :=
  G x = 13 ∧ (∀ k, 1 ≤ k → k < 5 → G (A k 0) = k) ∧ (∀ k, k < 30 → G (A 5 k) = 16 * k + 5) ∧ (∀ k, k < 16 → G (A 6 k) = 16 * k + 6 ∧ G (A 7 k) = 16 * k + 7) ∧
  (∀ o, gThere σ o = 1 → G (A 8 o) = 16 * o + 8 ∧ G (A 9 o) = 16 * o + 9 ∧ G (A 10 o) = 16 * o + 10 ∧ G (A 11 o) = 16 * o + 11) ∧ (∀ r, r < gRows σ → G (A 12 r) = 16 * r + 12)
/-- THE CLASS at x holds σ -/
def RepC (ct : Nat → ClassId) (A : Nat → Nat → Nat) (G ob : Nat → Nat) (σ : Sg) (M : Mem) (x : Nat) : Prop :=
  M x = some (xE A σ) ∧ RepG A G σ x ∧ RepO ob σ ∧ RepA ct A ob σ M ∧ (∀ o, gThere σ o = 1 → RepT ct A σ M o) ∧ (∀ k, k < 16 → RepS ct A σ M k) ∧ (∀ k r, k < gSv σ → rbx σ k ≤ r → r < rbx σ (k + 1) → RepR A σ M k r)
end
section
/-! find, referredTo, existing, checkValue, checkIndex, refersToLocal, isNewerThan -/
theorem sub_ge {ob : Nat → Nat} {n : Nat} (h : ∀ i j, i < j → j < n → ob i < ob j) : ∀ j, j < n → j ≤ ob j := by
  intro j
  induction j with
  | zero => intro _; exact Nat.zero_le _
  | succ j ih => intro hj; have h1 := ih (by omega); have h2 := h j (j + 1) (by omega) hj; omega
/-- what find answers -/
def fnd (A : Nat → Nat → Nat) (σ : Sg) (k : Int32) : Option Nat := if isO σ k then some (A 8 k.toNatClampNeg) else none
theorem isO_of {σ : Sg} {k : Int32} (h : isO σ k = true) (hB : gMade σ ≤ 600) : ∃ o : Nat, k = nI o ∧ o < gMade σ ∧ gThere σ o = 1 ∧ k.toNatClampNeg = o := by
  simp only [isO, decide_eq_true_eq] at h
  obtain ⟨h1, h2, h3⟩ := h
  obtain ⟨o, h4, rfl⟩ := nI_of (Int32.not_lt.mpr h1)
  rw [nI_clamp h4] at h2 h3 ⊢
  exact ⟨o, rfl, h2, h3, rfl⟩
theorem isO_nI {σ : Sg} {o : Nat} (h1 : o < gMade σ) (h2 : gThere σ o = 1) (hB : gMade σ ≤ 600) : isO σ (nI o) = true := by
  have : o < 2 ^ 31 := by omega
  simp only [isO, decide_eq_true_eq]
  rw [nI_clamp this]
  exact ⟨nI_pos' this, h1, h2⟩
set_option maxHeartbeats 4000000 in
set_option maxRecDepth 100000 in
theorem c_find (l : Launch) (hl : l.stackTraces = false) (base : Nat) (D : va_G) (ct : Nat → ClassId) (sa : Nat → Nat) {A : Nat → Nat → Nat} {G ob : Nat → Nat} {σ : Sg} {M : Mem} {x B : Nat} (hC : RepC ct A G ob σ M x) (hI : Inv B σ) (hB : B ≤ 600) (k : Int32) :
    CT l yX3_find (.code yX3_find cX3_find 3 (some (.object "SaveRestore$Thing")) :: WL) (rmK 1 0 0) base D ct sa M [.ref x, .int k] (fun v M' => v = some (va_rf (fnd A σ k)) ∧ M' = M) noX := by
  refine CT.of hl (by decide) (Nat.le_of_ble_eq_true rfl) ?_
  intro p e s m below meth c C hr hx
  obtain ⟨hx0, hG, hO, ⟨⟨tf, htf, htf2⟩, hA2⟩, hT, hS, hR⟩ := hC
  have hb1 : gMade σ ≤ 600 := Nat.le_trans hI.1.1 hB
  have hb2 : gAlive σ ≤ 200 := hI.1.2.2.2.1
  have loop : ∀ t : Nat, t ≤ gAlive σ → ∀ z : Int32, (t = 0 → z < 0) → (0 < t → z = nI (t - 1)) → (∀ i, t ≤ i → i < gAlive σ → nI (ob i) ≠ k) → VV p l e (rmK 1 0 0) s m ([.ref x, .int k] : List Value).toArray below meth c 3 base D (QB base D (fun v M' => v = some (va_rf (fnd A σ k)) ∧ M' = M) noX below ([.ref x, .int k] : List Value).toArray s 0 0) M 0 0 11 [(0, .ref x), (1, .int k), (2, .int z)] [] := by
    intro t
    induction t with
    | zero =>
      intro _ z hz _ hq
      have nz : ¬ ¬ z < 0 := fun h => h (hz rfl)
      have fz : fnd A σ k = none := by
        unfold fnd
        split
        · rename_i h
          obtain ⟨o, rfl, h1, h2, -⟩ := isO_of h hb1
          obtain ⟨j, hj, rfl⟩ := hO.2.2 o h1 h2
          exact absurd rfl (hq j (Nat.zero_le _) hj)
        · rfl
      refine V_iload_n C dX3_find_11 (by rfl) ?_
      refine V_if_lt C 41 dX3_find_12 (by decide) (fun h_12 => ?_) (fun h_12 => absurd h_12 (nz))
      refine V_null C dX3_find_41 ?_
      exact V_aret C hr (Or.inl rfl) (by decide) (by decide) dX3_find_42 ⟨by rw [fz]; rfl, rfl⟩
    | succ t ih =>
      intro ht z _ hz hq
      have hz := hz (by omega)
      simp only [Nat.add_sub_cancel] at hz
      subst hz
      have ho := hO.1 t (by omega)
      have fs : nI (ob t) = k → fnd A σ k = some (A 8 (ob t)) := by
        rintro rfl
        unfold fnd
        rw [if_pos (isO_nI ho.1 ho.2 hb1), nI_clamp (by omega)]
      refine V_iload_n C dX3_find_11 (by rfl) ?_
      refine V_if_lt C 41 dX3_find_12 (by decide) (fun h_12 => absurd h_12 (nI_pos (by omega))) (fun h_12 => ?_)
      refine V_aload_n C dX3_find_15 (by rfl) ?_
      refine V_get C (ci := 3) (by assumption) rfl wu_X3 0 (by decide) fl_X3_11 rfl (by rfl) dX3_find_16 ?_
      refine V_iload_n C dX3_find_19 (by rfl) ?_
      refine N_aldT C htf (by omega) (by decide) (htf2 _ (by omega)) dX3_find_20 ?_
      refine V_get C (ci := 2) (hT _ (hO.1 _ (by omega)).2).1 rfl wu_X2 0 (by decide) fl_X3_60 rfl (by rfl) dX3_find_21 ?_
      refine V_iload_n C dX3_find_24 (by rfl) ?_
      refine V_icmp_ne C 35 dX3_find_25 (by decide) (fun h25 => ?_) (fun h25 => ?_)
      · refine V_incm C dX3_find_35 (by rfl) (by decide) ?_
        refine V_goto C 11 dX3_find_38 (by decide) ?_
        refine VV.loc [(0, .ref x), (1, .int k), (2, .int (nI t + (-1)))] ⟨rfl, rfl, rfl, trivial⟩ ?_
        exact ih (by omega) _ (fun h => by subst h; decide) (fun h => by rw [sb_m1 h]) (fun i h1 h2 => by
          rcases Nat.lt_or_ge t i with h | h
          · exact hq i h h2
          · have : i = t := by omega
            subst this; exact h25)
      · refine V_aload_n C dX3_find_28 (by rfl) ?_
        refine V_get C (ci := 3) (by assumption) rfl wu_X3 0 (by decide) fl_X3_11 rfl (by rfl) dX3_find_29 ?_
        refine V_iload_n C dX3_find_32 (by rfl) ?_
        refine N_aldT C htf (by omega) (by decide) (htf2 _ (by omega)) dX3_find_33 ?_
        exact V_aret C hr (Or.inr ⟨_, rfl⟩) (by decide) (by decide) dX3_find_34 ⟨by rw [fs h25]; rfl, rfl⟩
  have start : VV p l e (rmK 1 0 0) s m ([.ref x, .int k] : List Value).toArray below meth c 3 base D (QB base D (fun v M' => v = some (va_rf (fnd A σ k)) ∧ M' = M) noX below ([.ref x, .int k] : List Value).toArray s 0 0) M 0 0 11 [(0, .ref x), (1, .int k), (2, .int (if nI (gAlive σ) - 1 < k then nI (gAlive σ) - 1 else k))] [] := by
    by_cases hk : k < 0
    · refine loop 0 (Nat.zero_le _) _ (fun _ => ?_) (fun h => absurd h (by omega)) (fun i _ hi => ?_)
      · split
        · rename_i h; exact Int32.lt_trans h hk
        · exact hk
      · intro e; rw [← e] at hk; exact nI_pos (by have := (hO.1 i hi).1; omega) hk
    · obtain ⟨o, ho, rfl⟩ := nI_of hk
      rcases Nat.eq_zero_or_pos (gAlive σ) with h0 | h0
      · rw [h0]
        refine loop 0 (Nat.zero_le _) _ (fun _ => ?_) (fun h => absurd h (by omega)) (fun i _ hi => absurd hi (by omega))
        rw [if_pos]
        · decide
        · rw [Int32.lt_iff_toInt_lt, nI_toInt ho]
          have : (nI 0 - 1).toInt = -1 := by decide
          omega
      · have e1 : nI (gAlive σ) - 1 = nI (gAlive σ - 1) := by
          have := nI_pred (gAlive σ - 1)
          rw [show gAlive σ - 1 + 1 = gAlive σ by omega] at this
          exact this
        rw [e1]
        by_cases h : gAlive σ - 1 < o
        · rw [if_pos ((nI_ltI (by omega) ho).mpr h)]
          exact loop (gAlive σ) (Nat.le_refl _) _ (fun h => absurd h (by omega)) (fun _ => rfl) (fun i h1 h2 => absurd h2 (by omega))
        · rw [if_neg (fun g => h ((nI_ltI (by omega) ho).mp g))]
          refine loop (o + 1) (by omega) _ (fun h => absurd h (by omega)) (fun _ => rfl) (fun i h1 h2 e => ?_)
          have h3 := sub_ge hO.2.1 i h2
          have h4 := (hO.1 i h2).1
          rw [nI_eq (by omega) ho] at e
          omega
  refine V_iload_n C dX3_find_0 (by rfl) ?_
  refine V_aload_n C dX3_find_1 (by rfl) ?_
  refine V_get C (ci := 3) (by assumption) rfl wu_X3 1 (by decide) fl_X3_15 rfl (by rfl) dX3_find_2 ?_
  refine V_iconst C (1) dX3_find_5 (by decide) ?_
  refine V_isub C dX3_find_6 ?_
  refine V_mmin C ml_X3_157 st_min ini_Math co_min (by decide) (by decide) (by decide) (by decide) dX3_find_7 ?_
  refine V_istore_n C dX3_find_10 (by decide) ?_
  refine VV.loc [(0, .ref x), (1, .int k), (2, .int (if nI (gAlive σ) - 1 < k then nI (gAlive σ) - 1 else k))] ⟨rfl, rfl, rfl, trivial⟩ ?_
  exact start
end
section
/-! existing, referredTo, refersToLocal, checkValue, checkIndex, isNewerThan -/
set_option maxHeartbeats 4000000 in
set_option maxRecDepth 100000 in
theorem c_existing (l : Launch) (hl : l.stackTraces = false) (base : Nat) (D : va_G) (ct : Nat → ClassId) (sa : Nat → Nat) {A : Nat → Nat → Nat} {G ob : Nat → Nat} {σ : Sg} {M : Mem} {x B : Nat} (hC : RepC ct A G ob σ M x) (hI : Inv B σ) (hB : B ≤ 600) (k : Int32) :
    CT l yX3_existing (.code yX3_existing cX3_existing 3 (some (.object "SaveRestore$Thing")) :: WL) (rmK 6 1 6) base D ct sa M [.ref x, .int k] (fun v M' => isO σ k = true ∧ v = some (.ref (A 8 k.toNatClampNeg)) ∧ M' = M) (fun E M' => isO σ k = false ∧ E = "java/util/NoSuchElementException" ∧ M' = M) := by
  refine CT.of hl (by decide) (Nat.le_of_ble_eq_true rfl) ?_
  intro p e s m below meth c C hr hx
  obtain ⟨hx0, hG, hO, hA, hT, hS, hR⟩ := id hC
  cases hk : isO σ k with
  | false =>
    have hf : fnd A σ k = none := by simp [fnd, hk]
    refine V_aload_n C dX3_existing_0 (by rfl) ?_
    refine V_iload_n C dX3_existing_1 (by rfl) ?_
    refine V_callV C hx (As := [.int k]) (c_find l hl base D ct sa hC hI hB k) w_X3_149 hx0 rfl rfl (by decide) (by decide) ⟨by decide, by decide⟩ dX3_existing_2 (by decide) (by decide) (fun _ _ h => h.elim) (fun v M1 hv => ?_)
    obtain ⟨rfl, rfl⟩ := hv
    refine VV.eqv (st' := [.null]) rfl (by rw [hf]; rfl) ?_
    refine V_astore_nN C dX3_existing_5 (by decide) ?_
    refine V_aload_nN C dX3_existing_6 (by rfl) ?_
    refine V_ifnonnullN C dX3_existing_7 ?_
    exact V_throwN C hx rfl (List.mem_of_getElem? (i := 1) rfl) dX3_existing_10 dX3_existing_13 dX3_existing_14 dX3_existing_16 dX3_existing_19 (by decide) (by decide) (by decide) (by decide) (by decide) (by decide) ⟨rfl, rfl, rfl⟩
  | true =>
    have hf : fnd A σ k = some (A 8 k.toNatClampNeg) := by simp [fnd, hk]
    refine V_aload_n C dX3_existing_0 (by rfl) ?_
    refine V_iload_n C dX3_existing_1 (by rfl) ?_
    refine V_callV C hx (As := [.int k]) (c_find l hl base D ct sa hC hI hB k) w_X3_149 hx0 rfl rfl (by decide) (by decide) ⟨by decide, by decide⟩ dX3_existing_2 (by decide) (by decide) (fun _ _ h => h.elim) (fun v M1 hv => ?_)
    obtain ⟨rfl, rfl⟩ := hv
    refine VV.eqv (st' := [.ref (A 8 k.toNatClampNeg)]) rfl (by rw [hf]; rfl) ?_
    refine V_astore_n C dX3_existing_5 (by decide) ?_
    refine V_aload_n C dX3_existing_6 (by rfl) ?_
    refine V_ifnonnull C 20 dX3_existing_7 (by decide) ?_
    refine V_aload_n C dX3_existing_20 (by rfl) ?_
    exact V_aret C hr (Or.inr ⟨_, rfl⟩) (by decide) (by decide) dX3_existing_21 ⟨rfl, rfl, rfl⟩
/-- what referredTo answers -/
def rft (A : Nat → Nat → Nat) (σ : Sg) (v : Int32) : Option Nat := if 0 ≤ v then none else fnd A σ (-1 - v)
set_option maxHeartbeats 4000000 in
set_option maxRecDepth 100000 in
theorem c_referredTo (l : Launch) (hl : l.stackTraces = false) (base : Nat) (D : va_G) (ct : Nat → ClassId) (sa : Nat → Nat) {A : Nat → Nat → Nat} {G ob : Nat → Nat} {σ : Sg} {M : Mem} {x B : Nat} (hC : RepC ct A G ob σ M x) (hI : Inv B σ) (hB : B ≤ 600) (v : Int32) :
    CT l yX3_referredTo (.code yX3_referredTo cX3_referredTo 2 (some (.object "SaveRestore$Thing")) :: WL) (rmK 2 0 0) base D ct sa M [.ref x, .int v] (fun v9 M' => v9 = some (va_rf (rft A σ v)) ∧ M' = M) noX := by
  refine CT.of hl (by decide) (Nat.le_of_ble_eq_true rfl) ?_
  intro p e s m below meth c C hr hx
  obtain ⟨hx0, hG, hO, hA, hT, hS, hR⟩ := id hC
  refine V_iload_n C dX3_referredTo_0 (by rfl) ?_
  refine V_if_ge C 14 dX3_referredTo_1 (by decide) (fun h1 => ?_) (fun h1 => ?_)
  · refine V_null C dX3_referredTo_14 ?_
    exact V_aret C hr (Or.inl rfl) (by decide) (by decide) dX3_referredTo_15 ⟨by unfold rft; rw [if_pos h1]; rfl, rfl⟩
  · refine V_aload_n C dX3_referredTo_4 (by rfl) ?_
    refine V_iconst C (-1) dX3_referredTo_5 (by decide) ?_
    refine V_iload_n C dX3_referredTo_6 (by rfl) ?_
    refine V_isub C dX3_referredTo_7 ?_
    refine V_callV C hx (As := [.int (-1 - v)]) (c_find l hl base D ct sa hC hI hB (-1 - v)) w_X3_149 hx0 rfl rfl (by decide) (by decide) ⟨by decide, by decide⟩ dX3_referredTo_8 (by decide) (by decide) (fun _ _ h => h.elim) (fun v9 M1 hv => ?_)
    obtain ⟨rfl, rfl⟩ := hv
    refine VV.eqv (st' := [va_rf (fnd A σ (-1 - v))]) rfl rfl ?_
    refine V_goto C 15 dX3_referredTo_11 (by decide) ?_
    exact V_aret C hr (va_rf_or _) (by decide) (by decide) dX3_referredTo_15 ⟨by unfold rft; rw [if_neg h1], rfl⟩
set_option maxHeartbeats 4000000 in
set_option maxRecDepth 100000 in
theorem c_checkValue (l : Launch) (hl : l.stackTraces = false) (base : Nat) (D : va_G) (ct : Nat → ClassId) (sa : Nat → Nat) {A : Nat → Nat → Nat} {G ob : Nat → Nat} {σ : Sg} {M : Mem} {x B : Nat} (hC : RepC ct A G ob σ M x) (hI : Inv B σ) (hB : B ≤ 600) (v : Int32) :
    CT l yX3_checkValue (.code yX3_checkValue cX3_checkValue 2 none :: WL) (rmK 6 1 6) base D ct sa M [.ref x, .int v] (fun v9 M' => isV σ v = true ∧ v9 = none ∧ M' = M) (fun E M' => isV σ v = false ∧ E = "java/util/NoSuchElementException" ∧ M' = M) := by
  refine CT.of hl (by decide) (Nat.le_of_ble_eq_true rfl) ?_
  intro p e s m below meth c C hr hx
  obtain ⟨hx0, hG, hO, hA, hT, hS, hR⟩ := id hC
  refine V_iload_n C dX3_checkValue_0 (by rfl) ?_
  refine V_if_ge C 22 dX3_checkValue_1 (by decide) (fun h1 => ?_) (fun h1 => ?_)
  · exact V_vret C hr (by decide) (by decide) dX3_checkValue_22 ⟨by simp [isV, h1], rfl, rfl⟩
  · refine V_aload_n C dX3_checkValue_4 (by rfl) ?_
    refine V_iload_n C dX3_checkValue_5 (by rfl) ?_
    refine V_callV C hx (As := [.int v]) (c_referredTo l hl base D ct sa hC hI hB v) w_X3_160 hx0 rfl rfl (by decide) (by decide) ⟨by decide, by decide⟩ dX3_checkValue_6 (by decide) (by decide) (fun _ _ h => h.elim) (fun v9 M1 hv => ?_)
    obtain ⟨rfl, rfl⟩ := hv
    have e1 : rft A σ v = fnd A σ (-1 - v) := by unfold rft; rw [if_neg h1]
    cases hk : isO σ (-1 - v) with
    | false =>
      have hf : fnd A σ (-1 - v) = none := by simp [fnd, hk]
      refine VV.eqv (st' := [.null]) rfl (by rw [e1, hf]; rfl) ?_
      refine V_ifnonnullN C dX3_checkValue_9 ?_
      exact V_throwN C hx rfl (List.mem_of_getElem? (i := 2) rfl) dX3_checkValue_12 dX3_checkValue_15 dX3_checkValue_16 dX3_checkValue_18 dX3_checkValue_21 (by decide) (by decide) (by decide) (by decide) (by decide) (by decide) ⟨by simp [isV, h1, hk], rfl, rfl⟩
    | true =>
      have hf : fnd A σ (-1 - v) = some (A 8 (rfOf v)) := by simp [fnd, hk, rfOf]
      refine VV.eqv (st' := [.ref (A 8 (rfOf v))]) rfl (by rw [e1, hf]; rfl) ?_
      refine V_ifnonnull C 22 dX3_checkValue_9 (by decide) ?_
      exact V_vret C hr (by decide) (by decide) dX3_checkValue_22 ⟨by simp [isV, hk], rfl, rfl⟩
set_option maxHeartbeats 4000000 in
set_option maxRecDepth 100000 in
theorem c_checkIndex (l : Launch) (hl : l.stackTraces = false) (base : Nat) (D : va_G) (ct : Nat → ClassId) (sa : Nat → Nat) (M : Mem) (i : Int32) (N : Nat) (hN : N < 2 ^ 31) :
    CT l yX3_checkIndex (.code yX3_checkIndex cX3_checkIndex 2 none :: WL) (rmK 6 1 6) base D ct sa M [.int i, .int (nI N)] (fun v9 M' => isN N i = true ∧ v9 = none ∧ M' = M) (fun E M' => isN N i = false ∧ E = "java/lang/IndexOutOfBoundsException" ∧ M' = M) := by
  refine CT.of hl (by decide) (Nat.le_of_ble_eq_true rfl) ?_
  intro p e s m below meth c C hr hx
  refine V_iload_n C dX3_checkIndex_0 (by rfl) ?_
  refine V_if_lt C 9 dX3_checkIndex_1 (by decide) (fun h1 => ?_) (fun h1 => ?_)
  · exact V_throw C hx rfl (E := "java/lang/IndexOutOfBoundsException") (by decide +kernel) cl_X3_135 ini_EB (List.mem_of_getElem? (i := 3) rfl) ea_B eg_B dX3_checkIndex_9 dX3_checkIndex_12 dX3_checkIndex_13 dX3_checkIndex_15 dX3_checkIndex_18 (by decide) (by decide) (by decide) (by decide) (by decide) (by decide) ⟨by simp only [isN, decide_eq_false_iff_not]; exact fun h => absurd h1 (Int32.not_lt.mpr h.1), rfl, rfl⟩
  · refine V_iload_n C dX3_checkIndex_4 (by rfl) ?_
    refine V_iload_n C dX3_checkIndex_5 (by rfl) ?_
    refine V_icmp_lt C 19 dX3_checkIndex_6 (by decide) (fun h6 => ?_) (fun h6 => ?_)
    · exact V_vret C hr (by decide) (by decide) dX3_checkIndex_19 ⟨by obtain ⟨j, hj, rfl⟩ := nI_of h1; simp only [isN, decide_eq_true_eq]; rw [nI_clamp hj]; exact ⟨nI_pos' hj, (nI_ltI hj hN).mp h6⟩, rfl, rfl⟩
    · exact V_throw C hx rfl (E := "java/lang/IndexOutOfBoundsException") (by decide +kernel) cl_X3_135 ini_EB (List.mem_of_getElem? (i := 3) rfl) ea_B eg_B dX3_checkIndex_9 dX3_checkIndex_12 dX3_checkIndex_13 dX3_checkIndex_15 dX3_checkIndex_18 (by decide) (by decide) (by decide) (by decide) (by decide) (by decide) ⟨by simp only [isN, decide_eq_false_iff_not]; rintro ⟨g1, g2⟩; obtain ⟨j, hj, rfl⟩ := nI_of h1; rw [nI_clamp hj] at g2; exact h6 ((nI_ltI hj hN).mpr g2), rfl, rfl⟩
/-- whether a value refers to a local object -/
def lcl (σ : Sg) (v : Int32) : Bool := decide (v < 0 ∧ gGlob σ (rfOf v) = 0)
theorem lcl_1 {σ : Sg} {v : Int32} (h : ¬ 0 ≤ v) (hg : gGlob σ (rfOf v) = 0) : lcl σ v = true := by simp only [lcl, decide_eq_true_eq]; exact ⟨Int32.not_le.mp h, hg⟩
theorem lcl_0 {σ : Sg} {v : Int32} (h : ¬ 0 ≤ v) (hg : gGlob σ (rfOf v) = 1) : lcl σ v = false := by simp only [lcl, decide_eq_false_iff_not]; rintro ⟨_, h2⟩; omega
theorem lcl_p {σ : Sg} {v : Int32} (h : 0 ≤ v) : lcl σ v = false := by simp only [lcl, decide_eq_false_iff_not]; rintro ⟨h2, _⟩; exact absurd h2 (Int32.not_lt.mpr h)
def b2i (b : Bool) : Int32 := if b then 1 else 0
set_option maxHeartbeats 4000000 in
set_option maxRecDepth 100000 in
theorem c_refersToLocal (l : Launch) (hl : l.stackTraces = false) (base : Nat) (D : va_G) (ct : Nat → ClassId) (sa : Nat → Nat) {A : Nat → Nat → Nat} {G ob : Nat → Nat} {σ : Sg} {M : Mem} {x B : Nat} (hC : RepC ct A G ob σ M x) (hI : Inv B σ) (hB : B ≤ 600) (v : Int32) (hv : isV σ v = true) :
    CT l yX3_refersToLocal (.code yX3_refersToLocal cX3_refersToLocal 3 (some .boolean) :: WL) (rmK 3 0 0) base D ct sa M [.ref x, .int v] (fun v9 M' => v9 = some (.int (b2i (lcl σ v))) ∧ M' = M) noX := by
  refine CT.of hl (by decide) (Nat.le_of_ble_eq_true rfl) ?_
  intro p e s m below meth c C hr hx
  obtain ⟨hx0, hG, hO, hA, hT, hS, hR⟩ := id hC
  by_cases hv0 : 0 ≤ v
  · have hf : rft A σ v = none := by unfold rft; rw [if_pos hv0]
    refine V_aload_n C dX3_refersToLocal_0 (by rfl) ?_
    refine V_iload_n C dX3_refersToLocal_1 (by rfl) ?_
    refine V_callV C hx (As := [.int v]) (c_referredTo l hl base D ct sa hC hI hB v) w_X3_160 hx0 rfl rfl (by decide) (by decide) ⟨by decide, by decide⟩ dX3_refersToLocal_2 (by decide) (by decide) (fun _ _ h => h.elim) (fun v9 M1 hv => ?_)
    obtain ⟨rfl, rfl⟩ := hv
    refine VV.eqv (st' := [.null]) rfl (by rw [hf]; rfl) ?_
    refine V_astore_nN C dX3_refersToLocal_5 (by decide) ?_
    refine V_aload_nN C dX3_refersToLocal_6 (by rfl) ?_
    refine V_ifnullN C 21 dX3_refersToLocal_7 (by decide) ?_
    refine V_iconst C (0) dX3_refersToLocal_21 (by decide) ?_
    exact V_zret C hr (by rfl) (by decide) (by decide) dX3_refersToLocal_22 ⟨by rw [lcl_p hv0]; rfl, rfl⟩
  · have hk : isO σ (-1 - v) = true := by simpa [isV, hv0] using hv
    have hf : rft A σ v = some (A 8 (rfOf v)) := by unfold rft; rw [if_neg hv0]; simp [fnd, hk, rfOf]
    obtain ⟨o9, e1, h1, ht, e2⟩ := isO_of hk (Nat.le_trans hI.1.1 hB)
    have e3 : rfOf v = o9 := e2
    rw [← e3] at ht
    have hg : gGlob σ (rfOf v) = 0 ∨ gGlob σ (rfOf v) = 1 := by have := hI.2.1.2.1 (rfOf v); omega
    refine V_aload_n C dX3_refersToLocal_0 (by rfl) ?_
    refine V_iload_n C dX3_refersToLocal_1 (by rfl) ?_
    refine V_callV C hx (As := [.int v]) (c_referredTo l hl base D ct sa hC hI hB v) w_X3_160 hx0 rfl rfl (by decide) (by decide) ⟨by decide, by decide⟩ dX3_refersToLocal_2 (by decide) (by decide) (fun _ _ h => h.elim) (fun v9 M1 hv => ?_)
    obtain ⟨rfl, rfl⟩ := hv
    refine VV.eqv (st' := [.ref (A 8 (rfOf v))]) rfl (by rw [hf]; rfl) ?_
    refine V_astore_n C dX3_refersToLocal_5 (by decide) ?_
    refine V_aload_n C dX3_refersToLocal_6 (by rfl) ?_
    refine V_ifnull C dX3_refersToLocal_7 ?_
    refine V_aload_n C dX3_refersToLocal_10 (by rfl) ?_
    refine V_get C (ci := 2) (hT _ ht).1 rfl wu_X2 1 (by decide) fl_X3_75 rfl (by rfl) dX3_refersToLocal_11 ?_
    refine V_if_ne C 21 dX3_refersToLocal_14 (by decide) (fun h14 => ?_) (fun h14 => ?_)
    · refine V_iconst C (0) dX3_refersToLocal_21 (by decide) ?_
      exact V_zret C hr (by rfl) (by decide) (by decide) dX3_refersToLocal_22 ⟨by rw [lcl_0 hv0 (by rcases hg with h | h; rw [h] at h14; exact absurd rfl h14; exact h)]; rfl, rfl⟩
    · refine V_iconst C (1) dX3_refersToLocal_17 (by decide) ?_
      refine V_goto C 22 dX3_refersToLocal_18 (by decide) ?_
      exact V_zret C hr (by rfl) (by decide) (by decide) dX3_refersToLocal_22 ⟨by rw [lcl_1 hv0 (by rcases hg with h | h; exact h; rw [h] at h14; exact absurd h14 (by decide))]; rfl, rfl⟩
set_option maxHeartbeats 4000000 in
set_option maxRecDepth 100000 in
theorem c_isNewerThan (l : Launch) (hl : l.stackTraces = false) (base : Nat) (D : va_G) (ct : Nat → ClassId) (sa : Nat → Nat) {M : Mem} {t q o f : Nat} {z1 z2 z3 z4 y1 y3 y4 y5 y6 : Value} (ho : o < 2 ^ 31) (hf : f < 2 ^ 31) (ht : M t = some (.inr (2, [.int (nI o), z1, z2, z3, z4]))) (hs : M q = some (.inr (1, [y1, .int (nI f), y3, y4, y5, y6]))) :
    CT l yX2_isNewerThan (.code yX2_isNewerThan cX2_isNewerThan 2 (some .boolean) :: WL) (rmK 1 0 0) base D ct sa M [.ref t, .ref q] (fun v9 M' => v9 = some (.int (b2i (decide (f ≤ o)))) ∧ M' = M) noX := by
  refine CT.of hl (by decide) (Nat.le_of_ble_eq_true rfl) ?_
  intro p e s m below meth c C hr hx
  refine V_aload_n C dX2_isNewerThan_0 (by rfl) ?_
  refine V_get C (ci := 2) ht rfl wu_X2 0 (by decide) fl_X2_21 rfl (by rfl) dX2_isNewerThan_1 ?_
  refine V_aload_n C dX2_isNewerThan_4 (by rfl) ?_
  refine V_get C (ci := 1) hs rfl wu_X1 1 (by decide) fl_X2_29 rfl (by rfl) dX2_isNewerThan_5 ?_
  refine V_icmp_lt C 15 dX2_isNewerThan_8 (by decide) (fun h8 => ?_) (fun h8 => ?_)
  · refine V_iconst C (0) dX2_isNewerThan_15 (by decide) ?_
    exact V_zret C hr (by rfl) (by decide) (by decide) dX2_isNewerThan_16 ⟨by rw [show decide (f ≤ o) = false from decide_eq_false (by have := (nI_ltI ho hf).mp h8; omega)]; rfl, rfl⟩
  · refine V_iconst C (1) dX2_isNewerThan_11 (by decide) ?_
    refine V_goto C 16 dX2_isNewerThan_12 (by decide) ?_
    exact V_zret C hr (by rfl) (by decide) (by decide) dX2_isNewerThan_16 ⟨by rw [show decide (f ≤ o) = true from decide_eq_true (by rcases Nat.lt_or_ge o f with h | h; exact absurd ((nI_ltI ho hf).mpr h) h8; exact h)]; rfl, rfl⟩
end
section
/-! what a call of the class leaves; the reads: get, stateOf, deepest, used, old, pushedSinceLatestSave -/
/-- nothing else was touched -/
def FrC (G G' : Nat → Nat) (M M' : Mem) : Prop := (∀ a, G' a ≠ 0 → G a ≠ 0 ∨ M a = none) ∧ (∀ a, G a = 0 → M a ≠ none → M' a = M a)
theorem FrC.rfl {G : Nat → Nat} {M : Mem} : FrC G G M M := ⟨fun _ h => Or.inl h, fun _ _ _ => Eq.refl _⟩
/-- the class holds σ' -/
def HoldC (ct : Nat → ClassId) (G : Nat → Nat) (M : Mem) (σ' : Sg) (M' : Mem) (x : Nat) : Prop := ∃ A' G' ob', RepC ct A' G' ob' σ' M' x ∧ FrC G G' M M'
def PostC (ct : Nat → ClassId) (G : Nat → Nat) (M : Mem) (x : Nat) (r : Nat × Int32 × Sg) : Option Value → Mem → Prop := fun v M' => r.1 = 0 ∧ v = some (.int r.2.1) ∧ HoldC ct G M r.2.2 M' x
def PxC (nm : Nat → String) (M : Mem) (r : Nat × Int32 × Sg) : String → Mem → Prop := fun E M' => 0 < r.1 ∧ E = nm r.1 ∧ M' = M
def nmN : Nat → String := fun c => if c = 1 then "java/util/NoSuchElementException" else if c = 2 then "java/lang/IndexOutOfBoundsException" else "java/lang/IllegalStateException"
def nmB : Nat → String := fun _ => "java/lang/IndexOutOfBoundsException"
def nmU : Nat → String := fun _ => "java/lang/UnsupportedOperationException"
theorem isN_of {n : Nat} {i : Int32} (h : isN n i = true) (hn : n < 2 ^ 31) : ∃ j : Nat, j < n ∧ i = nI j ∧ i.toNatClampNeg = j := by
  simp only [isN, decide_eq_true_eq] at h
  obtain ⟨h1, h2⟩ := h
  obtain ⟨j, h4, rfl⟩ := nI_of (Int32.not_lt.mpr h1)
  rw [nI_clamp h4] at h2 ⊢
  exact ⟨j, h2, rfl, rfl⟩
set_option maxHeartbeats 4000000 in
set_option maxRecDepth 100000 in
theorem c_get (l : Launch) (hl : l.stackTraces = false) (base : Nat) (D : va_G) (ct : Nat → ClassId) (sa : Nat → Nat) {A : Nat → Nat → Nat} {G ob : Nat → Nat} {σ : Sg} {M : Mem} {x B : Nat} (hC : RepC ct A G ob σ M x) (hI : Inv B σ) (hB : B ≤ 600) (k i : Int32) :
    CT l yX3_get (.code yX3_get cX3_get 4 (some .int) :: WL) (rmK 7 2 12) base D ct sa M [.ref x, .int k, .int i] (PostC ct G M x (oGet σ k i)) (PxC nmN M (oGet σ k i)) := by
  refine CT.of hl (by decide) (Nat.le_of_ble_eq_true rfl) ?_
  intro p e s m below meth c C hr hx
  obtain ⟨hx0, hG, hO, hA, hT, hS, hR⟩ := id hC
  refine V_aload_n C dX3_get_0 (by rfl) ?_
  refine V_iload_n C dX3_get_1 (by rfl) ?_
  refine V_callV C hx (As := [.int k]) (c_existing l hl base D ct sa hC hI hB k) w_X3_63 hx0 rfl rfl (by decide) (by decide) ⟨by decide, by decide⟩ dX3_get_2 (by decide) (by decide) (fun E M1 h => by obtain ⟨h1, rfl, rfl⟩ := h; rw [show oGet σ k i = (1, 0, σ) by simp [oGet, h1]]; exact ⟨Nat.one_pos, rfl, rfl⟩) (fun v M1 hv => ?_)
  obtain ⟨hk, rfl, rfl⟩ := hv
  obtain ⟨o, rfl, ho, ht, eo⟩ := isO_of hk (Nat.le_trans hI.1.1 hB)
  rw [eo]
  refine V_astore_n C dX3_get_5 (by decide) ?_
  refine V_iload_n C dX3_get_6 (by rfl) ?_
  refine V_bipush C (nI 8) dX3_get_7 (by decide) ?_
  refine V_callS C hx (As := [.int i, .int (nI 8)]) (c_checkIndex l hl base D ct sa M1 i 8 (by decide)) w_X3_71 rfl (by decide) (by decide) ⟨by decide, by decide⟩ dX3_get_9 (by decide) (by decide) (fun E M2 h => by obtain ⟨h1, rfl, rfl⟩ := h; rw [show oGet σ (nI o) i = (2, 0, σ) by simp [oGet, hk, h1]]; exact ⟨Nat.zero_lt_succ _, rfl, rfl⟩) (fun v M2 hv => ?_)
  obtain ⟨hi, rfl, rfl⟩ := hv
  obtain ⟨j, hj, rfl, ej⟩ := isN_of hi (by decide)
  obtain ⟨ht0, ⟨f, hf, hf2⟩, ht2, ht3⟩ := hT o ht
  refine V_aload_n C dX3_get_12 (by rfl) ?_
  refine V_get C (ci := 2) ht0 rfl wu_X2 2 (by decide) fl_X3_92 rfl (by rfl) dX3_get_13 ?_
  refine V_iload_n C dX3_get_16 (by rfl) ?_
  refine N_iald C hf hj (by decide) dX3_get_17 ?_
  exact V_iret C hr (by decide) (by decide) dX3_get_18 (by rw [show oGet σ (nI o) (nI j) = (0, gCe σ (8 * o + j), σ) by simp only [oGet, hk, hi, eo, ej]; rfl]; exact ⟨rfl, by rw [hf2 j hj], A, G, ob, hC, FrC.rfl⟩)
set_option maxHeartbeats 4000000 in
set_option maxRecDepth 100000 in
theorem c_stateOf (l : Launch) (hl : l.stackTraces = false) (base : Nat) (D : va_G) (ct : Nat → ClassId) (sa : Nat → Nat) {A : Nat → Nat → Nat} {G ob : Nat → Nat} {σ : Sg} {M : Mem} {x B : Nat} (hC : RepC ct A G ob σ M x) (hI : Inv B σ) (hB : B ≤ 600) (i : Int32) :
    CT l yX3_stateOf (.code yX3_stateOf cX3_stateOf 2 (some .int) :: WL) (rmK 7 2 12) base D ct sa M [.ref x, .int i] (PostC ct G M x (oStateOf σ i)) (PxC nmB M (oStateOf σ i)) := by
  refine CT.of hl (by decide) (Nat.le_of_ble_eq_true rfl) ?_
  intro p e s m below meth c C hr hx
  obtain ⟨hx0, hG, hO, hA, hT, hS, hR⟩ := id hC
  refine V_iload_n C dX3_stateOf_0 (by rfl) ?_
  refine V_bipush C (nI 10) dX3_stateOf_1 (by decide) ?_
  refine V_callS C hx (As := [.int i, .int (nI 10)]) (c_checkIndex l hl base D ct sa M i 10 (by decide)) w_X3_71 rfl (by decide) (by decide) ⟨by decide, by decide⟩ dX3_stateOf_3 (by decide) (by decide) (fun E M2 h => by obtain ⟨h1, rfl, rfl⟩ := h; rw [show oStateOf σ i = (1, 0, σ) by simp [oStateOf, h1]]; exact ⟨Nat.zero_lt_succ _, rfl, rfl⟩) (fun v M2 hv => ?_)
  obtain ⟨hi, rfl, rfl⟩ := hv
  obtain ⟨j, hj, rfl, ej⟩ := isN_of hi (by decide)
  obtain ⟨f, hf, hf2⟩ := hA.2.2.1
  refine V_aload_n C dX3_stateOf_6 (by rfl) ?_
  refine V_get C (ci := 3) hx0 rfl wu_X3 7 (by decide) fl_X3_37 rfl (by rfl) dX3_stateOf_7 ?_
  refine V_iload_n C dX3_stateOf_10 (by rfl) ?_
  refine N_iald C hf hj (by decide) dX3_stateOf_11 ?_
  exact V_iret C hr (by decide) (by decide) dX3_stateOf_12 (by rw [show oStateOf σ (nI j) = (0, gPa σ j, σ) by simp only [oStateOf, hi, ej]; rfl]; exact ⟨rfl, by rw [hf2 j hj], A, G, ob, hC, FrC.rfl⟩)
set_option maxHeartbeats 4000000 in
set_option maxRecDepth 100000 in
theorem c_deepest (l : Launch) (hl : l.stackTraces = false) (base : Nat) (D : va_G) (ct : Nat → ClassId) (sa : Nat → Nat) {A : Nat → Nat → Nat} {G ob : Nat → Nat} {σ : Sg} {M : Mem} {x B : Nat} (hC : RepC ct A G ob σ M x) (hI : Inv B σ) (hB : B ≤ 600) :
    CT l yX3_deepest (.code yX3_deepest cX3_deepest 1 (some .int) :: WL) (rmK 7 2 12) base D ct sa M [.ref x] (PostC ct G M x (0, nI (gDeep σ), σ)) noX := by
  refine CT.of hl (by decide) (Nat.le_of_ble_eq_true rfl) ?_
  intro p e s m below meth c C hr hx
  obtain ⟨hx0, hG, hO, hA, hT, hS, hR⟩ := id hC
  refine V_aload_n C dX3_deepest_0 (by rfl) ?_
  refine V_get C (ci := 3) hx0 rfl wu_X3 6 (by decide) fl_X3_34 rfl (by rfl) dX3_deepest_1 ?_
  exact V_iret C hr (by decide) (by decide) dX3_deepest_4 ⟨rfl, rfl, A, G, ob, hC, FrC.rfl⟩
set_option maxHeartbeats 4000000 in
set_option maxRecDepth 100000 in
theorem c_pushedSince (l : Launch) (hl : l.stackTraces = false) (base : Nat) (D : va_G) (ct : Nat → ClassId) (sa : Nat → Nat) {A : Nat → Nat → Nat} {σ : Sg} {M : Mem} {x : Nat} {sf9 : Nat → Option Nat} {y1 y2 y4 y5 y6 : Value} (hx0 : M x = some (xE A σ)) (h16 : gSv σ ≤ 16) (h30 : gSt σ ≤ 30) (hsf : M (A 2 0) = some (.inl (ct 3, 16, .inr (.inr (.inr (.inr sf9)))))) (hsf2 : ∀ k, k < 16 → sf9 k = some (A 6 k)) (hs9 : 0 < gSv σ → M (A 6 (gSv σ - 1)) = some (.inr (1, [y1, y2, .int (nI (gSb σ (gSv σ - 1))), y4, y5, y6]))) (hle9 : 0 < gSv σ → gSb σ (gSv σ - 1) ≤ gSt σ) :
    CT l yX3_pushedSinceLatestSave (.code yX3_pushedSinceLatestSave cX3_pushedSinceLatestSave 1 (some .int) :: WL) (rmK 1 0 0) base D ct sa M [.ref x] (fun v M' => v = some (.int (nI (ownS σ))) ∧ M' = M) noX := by
  refine CT.of hl (by decide) (Nat.le_of_ble_eq_true rfl) ?_
  intro p e s m below meth c C hr hx
  rcases Nat.eq_zero_or_pos (gSv σ) with h0 | h0
  · refine V_aload_n C dX3_pushedSinceLatestSave_0 (by rfl) ?_
    refine V_get C (ci := 3) hx0 rfl wu_X3 4 (by decide) fl_X3_28 rfl (by rfl) dX3_pushedSinceLatestSave_1 ?_
    refine V_if_le C 29 dX3_pushedSinceLatestSave_4 (by decide) (fun h_4 => ?_) (fun h_4 => absurd h_4 (fun h => h (by rw [h0]; decide)))
    refine V_aload_n C dX3_pushedSinceLatestSave_29 (by rfl) ?_
    refine V_get C (ci := 3) hx0 rfl wu_X3 9 (by decide) fl_X3_46 rfl (by rfl) dX3_pushedSinceLatestSave_30 ?_
    exact V_iret C hr (by decide) (by decide) dX3_pushedSinceLatestSave_33 ⟨by rw [ownS, if_pos h0], rfl⟩
  · have hs := hs9 h0
    have hle := hle9 h0
    refine V_aload_n C dX3_pushedSinceLatestSave_0 (by rfl) ?_
    refine V_get C (ci := 3) hx0 rfl wu_X3 4 (by decide) fl_X3_28 rfl (by rfl) dX3_pushedSinceLatestSave_1 ?_
    refine V_if_le C 29 dX3_pushedSinceLatestSave_4 (by decide) (fun h_4 => absurd h_4 (nI_nle (by omega) (by omega))) (fun h_4 => ?_)
    refine V_aload_n C dX3_pushedSinceLatestSave_7 (by rfl) ?_
    refine V_get C (ci := 3) hx0 rfl wu_X3 9 (by decide) fl_X3_46 rfl (by rfl) dX3_pushedSinceLatestSave_8 ?_
    refine V_aload_n C dX3_pushedSinceLatestSave_11 (by rfl) ?_
    refine V_get C (ci := 3) hx0 rfl wu_X3 3 (by decide) fl_X3_24 rfl (by rfl) dX3_pushedSinceLatestSave_12 ?_
    refine V_aload_n C dX3_pushedSinceLatestSave_15 (by rfl) ?_
    refine V_get C (ci := 3) hx0 rfl wu_X3 4 (by decide) fl_X3_28 rfl (by rfl) dX3_pushedSinceLatestSave_16 ?_
    refine V_iconst C (1) dX3_pushedSinceLatestSave_19 (by decide) ?_
    refine V_isub C dX3_pushedSinceLatestSave_20 ?_
    refine V_top (pk_sub (b := 1) (by omega)) ?_
    refine N_aldS C hsf (by omega) (by decide) (hsf2 _ (by omega)) dX3_pushedSinceLatestSave_21 ?_
    refine V_get C (ci := 1) hs rfl wu_X1 2 (by decide) fl_X3_101 rfl (by rfl) dX3_pushedSinceLatestSave_22 ?_
    refine V_isub C dX3_pushedSinceLatestSave_25 ?_
    refine V_top (pk_sub hle) ?_
    refine V_goto C 33 dX3_pushedSinceLatestSave_26 (by decide) ?_
    exact V_iret C hr (by decide) (by decide) dX3_pushedSinceLatestSave_33 ⟨by rw [ownS, if_neg (by omega)], rfl⟩
set_option maxHeartbeats 4000000 in
set_option maxRecDepth 100000 in
theorem c_used (l : Launch) (hl : l.stackTraces = false) (base : Nat) (D : va_G) (ct : Nat → ClassId) (sa : Nat → Nat) {A : Nat → Nat → Nat} {G ob : Nat → Nat} {σ : Sg} {M : Mem} {x B : Nat} (hC : RepC ct A G ob σ M x) (hI : Inv B σ) (hB : B ≤ 600) :
    CT l yX3_used (.code yX3_used cX3_used 3 (some .int) :: WL) (rmK 7 2 12) base D ct sa M [.ref x] (PostC ct G M x (0, oUsed σ, σ)) noX := by
  refine CT.of hl (by decide) (Nat.le_of_ble_eq_true rfl) ?_
  intro p e s m below meth c C hr hx
  obtain ⟨hx0, hG, hO, hA, hT, hS, hR⟩ := id hC
  obtain ⟨sf9, hsf, hsf2⟩ := hA.2.1
  obtain ⟨⟨i1, i2, i3, i4, i5, i6, i7, i8⟩, iT, iS, ⟨r1, r2, r3, r4, r5, r6⟩, -⟩ := id hI
  have hmono : ∀ t, t < gSv σ → rbx σ t ≤ rbx σ (t + 1) := by
    intro t ht
    unfold rbx
    rw [if_pos ht]
    split
    · exact r2 t (t + 1) (by omega) (by assumption)
    · exact r1 t ht
  have hmono0 : ∀ t, t ≤ gSv σ → rbx σ 0 ≤ rbx σ t := by
    intro t
    induction t with
    | zero => intro _; exact Nat.le_refl _
    | succ t ih => intro h; exact Nat.le_trans (ih (by omega)) (hmono t (by omega))
  have hr0 : rbx σ 0 = 0 := by
    unfold rbx
    split
    · exact r6 (by assumption)
    · exact r5 (by omega)
  have loop : ∀ d t : Nat, gSv σ ≤ t + d → t ≤ gSv σ → VV p l e (rmK 7 2 12) s m ([.ref x] : List Value).toArray below meth c 3 base D (QB base D (PostC ct G M x (0, oUsed σ, σ)) noX below ([.ref x] : List Value).toArray s 2 12) M 0 0 4 [(0, .ref x), (1, .int (nI (rbx σ t - rbx σ 0))), (2, .int (nI t))] [] := by
    intro d
    induction d with
    | zero =>
      intro t h1 h2
      have htt : t = gSv σ := by omega
      refine V_iload_n C dX3_used_4 (by rfl) ?_
      refine V_aload_n C dX3_used_5 (by rfl) ?_
      refine V_get C (ci := 3) hx0 rfl wu_X3 4 (by decide) fl_X3_28 rfl (by rfl) dX3_used_6 ?_
      refine V_icmp_ge C 30 dX3_used_9 (by decide) (fun h_9 => ?_) (fun h_9 => absurd h_9 (fun h => h ((nI_leI (by omega) (by omega)).mpr (by omega))))
      refine V_bipush C (nI 12) dX3_used_30 (by decide) ?_
      refine V_aload_n C dX3_used_32 (by rfl) ?_
      refine V_get C (ci := 3) hx0 rfl wu_X3 1 (by decide) fl_X3_15 rfl (by rfl) dX3_used_33 ?_
      refine V_imul C dX3_used_36 ?_
      refine V_iconst C (nI 3) dX3_used_37 (by decide) ?_
      refine V_iload_n C dX3_used_38 (by rfl) ?_
      refine V_imul C dX3_used_39 ?_
      refine V_iadd C dX3_used_40 ?_
      refine V_bipush C (nI 6) dX3_used_41 (by decide) ?_
      refine V_aload_n C dX3_used_43 (by rfl) ?_
      refine V_get C (ci := 3) hx0 rfl wu_X3 4 (by decide) fl_X3_28 rfl (by rfl) dX3_used_44 ?_
      refine V_imul C dX3_used_47 ?_
      refine V_iadd C dX3_used_48 ?_
      refine V_bipush C (nI 10) dX3_used_49 (by decide) ?_
      refine V_aload_n C dX3_used_51 (by rfl) ?_
      refine V_get C (ci := 3) hx0 rfl wu_X3 9 (by decide) fl_X3_46 rfl (by rfl) dX3_used_52 ?_
      refine V_imul C dX3_used_55 ?_
      refine V_iadd C dX3_used_56 ?_
      refine V_top (y := oUsed σ) ?_ ?_
      · rw [pk_mul, pk_mul, pk_mul, pk_mul, nI_add, nI_add, nI_add]
        unfold oUsed
        rw [show rbx σ t - rbx σ 0 = gRows σ by rw [htt, hr0]; unfold rbx; rw [if_neg (Nat.lt_irrefl _)]; omega]
      exact V_iret C hr (by decide) (by decide) dX3_used_57 ⟨rfl, rfl, A, G, ob, hC, FrC.rfl⟩
    | succ d ih =>
      intro t h1 h2
      rcases Nat.lt_or_ge t (gSv σ) with ht | ht
      · refine V_iload_n C dX3_used_4 (by rfl) ?_
        refine V_aload_n C dX3_used_5 (by rfl) ?_
        refine V_get C (ci := 3) hx0 rfl wu_X3 4 (by decide) fl_X3_28 rfl (by rfl) dX3_used_6 ?_
        refine V_icmp_ge C 30 dX3_used_9 (by decide) (fun h_9 => absurd h_9 (fun h => absurd ((nI_leI (by omega) (by omega)).mp h) (by omega))) (fun h_9 => ?_)
        refine V_iload_n C dX3_used_12 (by rfl) ?_
        refine V_aload_n C dX3_used_13 (by rfl) ?_
        refine V_get C (ci := 3) hx0 rfl wu_X3 3 (by decide) fl_X3_24 rfl (by rfl) dX3_used_14 ?_
        refine V_iload_n C dX3_used_17 (by rfl) ?_
        refine N_aldS C hsf (by omega) (by decide) (hsf2 _ (by omega)) dX3_used_18 ?_
        refine V_get C (ci := 1) ((hS t (by omega)).1 ht).1 rfl wu_X1 5 (by decide) fl_X3_143 rfl (by rfl) dX3_used_19 ?_
        refine V_iadd C dX3_used_22 ?_
        refine V_top (y := nI (rbx σ (t + 1) - rbx σ 0)) (by rw [nI_add]; have := hmono t ht; have := hmono0 t (by omega); congr 1; omega) ?_
        refine V_istore_n C dX3_used_23 (by decide) ?_
        refine V_inc1 C dX3_used_24 (by rfl) (by decide) ?_
        refine V_goto C 4 dX3_used_27 (by decide) ?_
        refine VV.loc [(0, .ref x), (1, .int (nI (rbx σ (t + 1) - rbx σ 0))), (2, .int (nI (t + 1)))] ⟨rfl, rfl, (by rw [← nI_1]; rfl), trivial⟩ ?_
        exact ih (t + 1) (by omega) (by omega)
      · exact ih t (by omega) h2
  refine V_iconst C (0) dX3_used_0 (by decide) ?_
  refine V_istore_n C dX3_used_1 (by decide) ?_
  refine V_iconst C (0) dX3_used_2 (by decide) ?_
  refine V_istore_n C dX3_used_3 (by decide) ?_
  refine VV.loc [(0, .ref x), (1, .int (nI (rbx σ 0 - rbx σ 0))), (2, .int (nI 0))] ⟨rfl, (by rw [Nat.sub_self]; rfl), rfl, trivial⟩ ?_
  exact loop (gSv σ) 0 (by omega) (Nat.zero_le _)
set_option maxHeartbeats 4000000 in
set_option maxRecDepth 100000 in
theorem c_old_loop {l : Launch} (hl : l.stackTraces = false) {base : Nat} {D : va_G} {ct : Nat → ClassId} {sa : Nat → Nat} {A : Nat → Nat → Nat} {G ob : Nat → Nat} {σ : Sg} {M : Mem} {x B : Nat} (hC : RepC ct A G ob σ M x) (hI : Inv B σ) (hB : B ≤ 600) {o : Nat} (ho : o < gMade σ) (ht9 : gThere σ o = 1) (eo : (nI o).toNatClampNeg = o) (hk : isO σ (nI o) = true)
    {p : Program} {e : Env} {s : State} {m : MethodId} {below : List Frame} {meth : Method} {c : Code} (C : Cx p l s m ([.ref x, .int (nI o)] : List Value).toArray meth c cX3_old 5 yX3_old.cls base D ct sa) (hr : meth.sig.returnType = some .int) (hx : ∀ x ∈ c.exceptionTable.toList, False) :
    ∀ d t : Nat, gSv σ ≤ t + d → t ≤ gSv σ → VV p l e (rmK 7 2 12) s m ([.ref x, .int (nI o)] : List Value).toArray below meth c 5 base D (QB base D (PostC ct G M x (oOld σ (nI o))) (PxC nmN M (oOld σ (nI o))) below ([.ref x, .int (nI o)] : List Value).toArray s 2 12) M (0 + 1) (0 + 6) 11 [(0, .ref x), (1, .int (nI o)), (2, .ref (A 8 o)), (3, .int (nI (newS σ o t))), (4, .int (nI t))] [] := by
  obtain ⟨hx0, hG, hO, hA, hT, hS, hR⟩ := id hC
  obtain ⟨sf9, hsf, hsf2⟩ := hA.2.1
  obtain ⟨⟨i1, i2, i3, i4, i5, i6, i7, i8⟩, iT, iS, -⟩ := id hI
  have ht0 := (hT o ht9).1
  intro d
  induction d with
  | zero =>
    intro t h1 h2
    have htt : t = gSv σ := by omega
    refine V_iload C dX3_old_11 (by rfl) ?_
    refine V_aload_n C dX3_old_13 (by rfl) ?_
    refine V_get C (ci := 3) hx0 rfl wu_X3 4 (by decide) fl_X3_28 rfl (by rfl) dX3_old_14 ?_
    refine V_icmp_ge C 43 dX3_old_17 (by decide) (fun h_17 => ?_) (fun h_17 => absurd h_17 (fun h => h ((nI_leI (by omega) (by omega)).mpr (by omega))))
    refine V_iload_n C dX3_old_43 (by rfl) ?_
    exact V_iret C hr (by decide) (by decide) dX3_old_44 (by rw [show oOld σ (nI o) = (0, nI (newS σ o (gSv σ)), σ) by simp only [oOld, hk, eo]; rfl, ← htt]; exact ⟨rfl, rfl, A, G, ob, hC, FrC.rfl⟩)
  | succ d ih =>
    intro t h1 h2
    rcases Nat.lt_or_ge t (gSv σ) with ht2 | ht2
    · refine V_iload C dX3_old_11 (by rfl) ?_
      refine V_aload_n C dX3_old_13 (by rfl) ?_
      refine V_get C (ci := 3) hx0 rfl wu_X3 4 (by decide) fl_X3_28 rfl (by rfl) dX3_old_14 ?_
      refine V_icmp_ge C 43 dX3_old_17 (by decide) (fun h_17 => absurd h_17 (fun h => absurd ((nI_leI (by omega) (by omega)).mp h) (by omega))) (fun h_17 => ?_)
      refine V_aload_n C dX3_old_20 (by rfl) ?_
      refine V_aload_n C dX3_old_21 (by rfl) ?_
      refine V_get C (ci := 3) hx0 rfl wu_X3 3 (by decide) fl_X3_24 rfl (by rfl) dX3_old_22 ?_
      refine V_iload C dX3_old_25 (by rfl) ?_
      refine N_aldS C hsf (by omega) (by decide) (hsf2 _ (by omega)) dX3_old_27 ?_
      refine V_callV C hx (As := [.ref (A 6 t)]) (c_isNewerThan l hl base D ct sa (by omega) (by have := iS.2.2.1 t ht2; omega) ht0 ((hS t (by omega)).1 ht2).1) w_X3_146 ht0 rfl rfl (by decide) (by decide) ⟨by decide, by decide⟩ dX3_old_28 (by decide) (by decide) (fun _ _ h => h.elim) (fun v M1 hv => ?_)
      obtain ⟨rfl, rfl⟩ := hv
      refine VV.eqv (st' := [.int (b2i (decide (gFst σ t ≤ o)))]) rfl rfl ?_
      refine V_if_eq C 37 dX3_old_31 (by decide) (fun h31 => ?_) (fun h31 => ?_)
      · have e9 : newS σ o (t + 1) = newS σ o t := by
          have : ¬ gFst σ t ≤ o := by intro h; rw [decide_eq_true h] at h31; exact absurd h31 (by decide)
          simp [newS, this]
        refine V_inc1 C dX3_old_37 (by rfl) (by decide) ?_
        refine V_goto C 11 dX3_old_40 (by decide) ?_
        refine VV.loc [(0, .ref x), (1, .int (nI o)), (2, .ref (A 8 o)), (3, .int (nI (newS σ o (t + 1)))), (4, .int (nI (t + 1)))] ⟨rfl, rfl, rfl, (by rw [e9]; rfl), (by rw [← nI_1]; rfl), trivial⟩ ?_
        exact ih (t + 1) (by omega) (by omega)
      · have e9 : newS σ o (t + 1) = newS σ o t + 1 := by
          have : gFst σ t ≤ o := by
            rcases Nat.lt_or_ge o (gFst σ t) with h | h
            · rw [decide_eq_false (by omega)] at h31; exact absurd rfl h31
            · exact h
          simp [newS, this]
        refine V_inc1 C dX3_old_34 (by rfl) (by decide) ?_
        refine V_inc1 C dX3_old_37 (by rfl) (by decide) ?_
        refine V_goto C 11 dX3_old_40 (by decide) ?_
        refine VV.loc [(0, .ref x), (1, .int (nI o)), (2, .ref (A 8 o)), (3, .int (nI (newS σ o (t + 1)))), (4, .int (nI (t + 1)))] ⟨rfl, rfl, rfl, (by rw [e9, ← nI_1]; rfl), (by rw [← nI_1]; rfl), trivial⟩ ?_
        exact ih (t + 1) (by omega) (by omega)
    · exact ih t (by omega) h2
set_option maxHeartbeats 4000000 in
set_option maxRecDepth 100000 in
theorem c_old (l : Launch) (hl : l.stackTraces = false) (base : Nat) (D : va_G) (ct : Nat → ClassId) (sa : Nat → Nat) {A : Nat → Nat → Nat} {G ob : Nat → Nat} {σ : Sg} {M : Mem} {x B : Nat} (hC : RepC ct A G ob σ M x) (hI : Inv B σ) (hB : B ≤ 600) (k : Int32) :
    CT l yX3_old (.code yX3_old cX3_old 5 (some .int) :: WL) (rmK 7 2 12) base D ct sa M [.ref x, .int k] (PostC ct G M x (oOld σ k)) (PxC nmN M (oOld σ k)) := by
  refine CT.of hl (by decide) (Nat.le_of_ble_eq_true rfl) ?_
  intro p e s m below meth c C hr hx
  obtain ⟨hx0, hG, hO, hA, hT, hS, hR⟩ := id hC
  refine V_aload_n C dX3_old_0 (by rfl) ?_
  refine V_iload_n C dX3_old_1 (by rfl) ?_
  refine V_callV C hx (As := [.int k]) (c_existing l hl base D ct sa hC hI hB k) w_X3_63 hx0 rfl rfl (by decide) (by decide) ⟨by decide, by decide⟩ dX3_old_2 (by decide) (by decide) (fun E M1 h => by obtain ⟨h1, rfl, rfl⟩ := h; rw [show oOld σ k = (1, 0, σ) by simp [oOld, h1]]; exact ⟨Nat.one_pos, rfl, rfl⟩) (fun v M1 hv => ?_)
  obtain ⟨hk, rfl, rfl⟩ := hv
  obtain ⟨o, rfl, ho, ht, eo⟩ := isO_of hk (Nat.le_trans hI.1.1 hB)
  rw [eo]
  refine V_astore_n C dX3_old_5 (by decide) ?_
  refine V_iconst C (0) dX3_old_6 (by decide) ?_
  refine V_istore_n C dX3_old_7 (by decide) ?_
  refine V_iconst C (0) dX3_old_8 (by decide) ?_
  refine V_istore C dX3_old_9 (by decide) ?_
  refine VV.loc [(0, .ref x), (1, .int (nI o)), (2, .ref (A 8 o)), (3, .int (nI (newS σ o 0))), (4, .int (nI 0))] ⟨rfl, rfl, rfl, rfl, rfl, trivial⟩ ?_
  exact c_old_loop hl hC hI hB ho ht eo hk C hr hx (gSv σ) 0 (by omega) (Nat.zero_le _)
end
section
/-! how the class's picture moves; state, bytes, push, pop -/
theorem arI.same {ct : Nat → ClassId} {M M' : Mem} {a N : Nat} {g : Nat → Int32} (h : arI ct M a N g) (e : M' a = M a) : arI ct M' a N g := by
  obtain ⟨f, h1, h2⟩ := h
  exact ⟨f, by rw [e]; exact h1, h2⟩
theorem arI.to {ct : Nat → ClassId} {M : Mem} {a N : Nat} {g g' : Nat → Int32} (h : arI ct M a N g) (e : ∀ j, j < N → g j = g' j) : arI ct M a N g' := by
  obtain ⟨f, h1, h2⟩ := h
  exact ⟨f, h1, fun j hj => (h2 j hj).trans (e j hj)⟩
theorem arI.new {ct : Nat → ClassId} {M : Mem} {a N : Nat} {f g : Nat → Int32} (e : ∀ j, j < N → f j = g j) : arI ct (mput M a (.inl (ct 0, N, .inl f))) a N g := ⟨f, mput_eq _ _ _, e⟩
theorem hasR_congr {σ σ' : Sg} {lo hi c : Nat} (h : ∀ r, lo ≤ r → r < hi → gPl σ' r = gPl σ r) : hasR σ' lo hi c = hasR σ lo hi c := by
  rw [Bool.eq_iff_iff, hasR_iff, hasR_iff]
  exact ⟨fun ⟨r, h1, h2, h3⟩ => ⟨r, h1, h2, by rw [← h r h1 h2]; exact h3⟩, fun ⟨r, h1, h2, h3⟩ => ⟨r, h1, h2, by rw [h r h1 h2]; exact h3⟩⟩
theorem ownr_congr {σ σ' : Sg} : ∀ (k : Nat) (c : Nat), (∀ j, j ≤ k → rbx σ' j = rbx σ j) → (∀ j r, j < k → rbx σ j ≤ r → r < rbx σ (j + 1) → gPl σ' r = gPl σ r) → (∀ j, j < k → gNum σ' j = gNum σ j) → ownr σ' k c = ownr σ k c := by
  intro k
  induction k with
  | zero => intro c _ _ _; rfl
  | succ k ih =>
    intro c h1 h2 h3
    simp only [ownr]
    rw [h1 k (by omega), h1 (k + 1) (by omega), hasR_congr (fun r g1 g2 => h2 k r (by omega) g1 g2), h3 k (by omega), ih c (fun j hj => h1 j (by omega)) (fun j r hj => h2 j r (by omega)) (fun j hj => h3 j (by omega))]
theorem RepT.mv {ct : Nat → ClassId} {A : Nat → Nat → Nat} {σ σ' : Sg} {M M' : Mem} {o : Nat} (h : RepT ct A σ M o) (m8 : M' (A 8 o) = M (A 8 o)) (m9 : M' (A 9 o) = M (A 9 o)) (m10 : M' (A 10 o) = M (A 10 o)) (m11 : M' (A 11 o) = M (A 11 o)) (eg : gGlob σ' o = gGlob σ o) (ec : ∀ i, i < 8 → gCe σ (8 * o + i) = gCe σ' (8 * o + i)) (eo : ∀ i, i < 8 → gOc σ (8 * o + i) = gOc σ' (8 * o + i)) (ew : ∀ i, i < 8 → ownr σ (gSv σ) (8 * o + i) = ownr σ' (gSv σ') (8 * o + i)) : RepT ct A σ' M' o := by
  obtain ⟨h1, h2, h3, h4⟩ := h
  refine ⟨?_, (h2.same m9).to ec, (h3.same m10).to eo, (h4.same m11).to (fun i hi => by rw [ew i hi])⟩
  rw [m8, h1]; unfold tE; rw [eg]
theorem RepS.mv {ct : Nat → ClassId} {A : Nat → Nat → Nat} {σ σ' : Sg} {M M' : Mem} {k : Nat} (h : RepS ct A σ M k) (m6 : M' (A 6 k) = M (A 6 k)) (m7 : M' (A 7 k) = M (A 7 k)) (ev : gSv σ' = gSv σ) (en : gNum σ' k = gNum σ k) (ef : gFst σ' k = gFst σ k) (es : gSb σ' k = gSb σ k) (eh : ∀ j, j < 8 → gHad σ (10 * k + j) = gHad σ' (10 * k + j)) (e0 : rbx σ' k = rbx σ k) (e1 : rbx σ' (k + 1) = rbx σ (k + 1)) : RepS ct A σ' M' k := by
  obtain ⟨h1, h2⟩ := h
  refine ⟨fun hk => ?_, fun hk => ?_⟩
  · obtain ⟨g1, g2⟩ := h1 (by rw [← ev]; exact hk)
    refine ⟨?_, (g2.same m7).to eh⟩
    rw [m6, g1, en, ef, es, e0, e1]
  · obtain ⟨n, f, p, g, q1, q2⟩ := h2 (by rw [← ev]; exact hk)
    exact ⟨n, f, p, g, by rw [m6]; exact q1, by rw [m7]; exact q2⟩
theorem RepR.mv {A : Nat → Nat → Nat} {σ σ' : Sg} {M M' : Mem} {k r : Nat} (h : RepR A σ M k r) (m : M' (A 12 r) = M (A 12 r)) (ep : gPl σ' r = gPl σ r) (ev : gVal σ' r = gVal σ r) (eo : ownr σ' k (gPl σ r) = ownr σ k (gPl σ r)) (e0 : rbx σ' k = rbx σ k) : RepR A σ' M' k r := by
  unfold RepR at h ⊢
  rw [m, h, ep, ev, eo, e0]
/-- the rows lie below gRows -/
theorem rbx_le {B : Nat} {σ : Sg} (hI : Inv B σ) (k : Nat) : rbx σ k ≤ gRows σ := by
  unfold rbx
  split
  · exact hI.2.2.2.1.1 k (by assumption)
  · exact Nat.le_refl _
theorem va_up_id {α : Type} (f : Nat → α) (k : Nat) : va_up f k (f k) = f := by
  funext j
  unfold va_up
  split
  · subst_vars; rfl
  · rfl
theorem sw_id (σ : Sg) (f : Nat) : sw σ f (σ.2 f) = σ := by
  refine Prod.ext rfl ?_
  funext f'
  show (if f' = f then σ.2 f else σ.2 f') = σ.2 f'
  split
  · subst_vars; rfl
  · rfl
theorem upd_up {f : Nat → Int32} {g : Nat → Int32} {N k : Nat} {v : Int32} (h : ∀ j, j < N → f j = g j) : ∀ j, j < N → upd f k v j = va_up g k v j := by
  intro j hj
  by_cases e : j = k
  · subst e; simp [upd, va_up]
  · rw [pk_un e, va_up_ne _ _ e]; exact h j hj
/-- only the addresses of one kind moved: the class's picture, but for the part that the caller gives -/
theorem FrC.of {G : Nat → Nat} {M M' : Mem} (h : ∀ a, G a = 0 → M' a = M a) : FrC G G M M' := ⟨fun _ h => Or.inl h, fun a h1 _ => h a h1⟩
theorem stateC {ct : Nat → ClassId} {A : Nat → Nat → Nat} {G ob : Nat → Nat} {σ : Sg} {M : Mem} {x B : Nat} (hC : RepC ct A G ob σ M x) (hI : Inv B σ) {f : Nat → Int32} (hf : M (A 3 0) = some (.inl (ct 0, 10, .inl f))) (hf2 : ∀ j, j < 10 → f j = σ.2 2 j) {j : Nat} {v : Int32} : RepC ct A G ob (sw σ 2 (va_up (σ.2 2) j v)) (mput M (A 3 0) (.inl (ct 0, 10, .inl (upd f j v)))) x := by
  obtain ⟨hx0, hG, hO, ⟨⟨tf, a1, a2⟩, ⟨s9, a3, a4⟩, a5, ⟨uf, a6, a7⟩, a8⟩, hT, hS, hR⟩ := hC
  have g3 : G (A 3 0) = 3 := hG.2.1 3 (by decide) (by decide)
  have hs : ∀ a, G a ≠ 3 → mput M (A 3 0) (.inl (ct 0, 10, .inl (upd f j v))) a = M a := fun a ha => mput_ne (fun e => ha (by rw [e]; exact g3))
  have ow : ∀ k c, ownr (sw σ 2 (va_up (σ.2 2) j v)) k c = ownr σ k c := fun k c => ownr_congr k c (fun _ _ => rfl) (fun _ _ _ _ _ => rfl) (fun _ _ => rfl)
  refine ⟨?_, hG, hO, ⟨⟨tf, ?_, a2⟩, ⟨s9, ?_, a4⟩, arI.new (upd_up hf2), ⟨uf, ?_, a7⟩, fun k hk => ?_⟩, fun o ho => ?_, fun k hk => ?_, fun k r h1 h2 h3 => ?_⟩
  · rw [hs x (by rw [hG.1]; decide)]; exact hx0
  · rw [hs _ (by rw [hG.2.1 1 (by decide) (by decide)]; decide)]; exact a1
  · rw [hs _ (by rw [hG.2.1 2 (by decide) (by decide)]; decide)]; exact a3
  · rw [hs _ (by rw [hG.2.1 4 (by decide) (by decide)]; decide)]; exact a6
  · obtain ⟨g, q1, q2⟩ := a8 k hk
    exact ⟨g, by rw [hs _ (by rw [hG.2.2.1 k hk]; omega)]; exact q1, q2⟩
  · have t := hG.2.2.2.2.1 o ho
    exact (hT o ho).mv (hs _ (by rw [t.1]; omega)) (hs _ (by rw [t.2.1]; omega)) (hs _ (by rw [t.2.2.1]; omega)) (hs _ (by rw [t.2.2.2]; omega)) rfl (fun _ _ => rfl) (fun _ _ => rfl) (fun i _ => (ow _ _).symm)
  · have t := hG.2.2.2.1 k hk
    exact (hS k hk).mv (hs _ (by rw [t.1]; omega)) (hs _ (by rw [t.2]; omega)) rfl rfl rfl rfl (fun _ _ => rfl) rfl rfl
  · exact (hR k r h1 h2 h3).mv (hs _ (by rw [hG.2.2.2.2.2 r (Nat.lt_of_lt_of_le h3 (rbx_le hI _))]; omega)) rfl rfl (ow _ _) rfl
set_option maxHeartbeats 4000000 in
set_option maxRecDepth 100000 in
theorem c_state (l : Launch) (hl : l.stackTraces = false) (base : Nat) (D : va_G) (ct : Nat → ClassId) (sa : Nat → Nat) {A : Nat → Nat → Nat} {G ob : Nat → Nat} {σ : Sg} {M : Mem} {x B : Nat} (hC : RepC ct A G ob σ M x) (hI : Inv B σ) (hB : B ≤ 600) (i v : Int32) :
    CT l yX3_state (.code yX3_state cX3_state 4 (some .int) :: WL) (rmK 7 2 12) base D ct sa M [.ref x, .int i, .int v] (PostC ct G M x (oState σ i v)) (PxC nmN M (oState σ i v)) := by
  refine CT.of hl (by decide) (Nat.le_of_ble_eq_true rfl) ?_
  intro p e s m below meth c C hr hx
  obtain ⟨hx0, hG, hO, hA, hT, hS, hR⟩ := id hC
  refine V_aload_n C dX3_state_0 (by rfl) ?_
  refine V_iload_n C dX3_state_1 (by rfl) ?_
  refine V_callV C hx (As := [.int v]) (c_checkValue l hl base D ct sa hC hI hB v) w_X3_67 hx0 rfl rfl (by decide) (by decide) ⟨by decide, by decide⟩ dX3_state_2 (by decide) (by decide) (fun E M1 h => by obtain ⟨h1, rfl, rfl⟩ := h; rw [show oState σ i v = (1, 0, σ) by simp [oState, h1]]; exact ⟨Nat.one_pos, rfl, rfl⟩) (fun v9 M1 hv => ?_)
  obtain ⟨hv, rfl, rfl⟩ := hv
  refine V_iload_n C dX3_state_5 (by rfl) ?_
  refine V_bipush C (nI 10) dX3_state_6 (by decide) ?_
  refine V_callS C hx (As := [.int i, .int (nI 10)]) (c_checkIndex l hl base D ct sa M1 i 10 (by decide)) w_X3_71 rfl (by decide) (by decide) ⟨by decide, by decide⟩ dX3_state_8 (by decide) (by decide) (fun E M2 h => by obtain ⟨h1, rfl, rfl⟩ := h; rw [show oState σ i v = (2, 0, σ) by simp [oState, hv, h1]]; exact ⟨Nat.zero_lt_succ _, rfl, rfl⟩) (fun v9 M2 hv2 => ?_)
  obtain ⟨hi, rfl, rfl⟩ := hv2
  obtain ⟨j, hj, rfl, ej⟩ := isN_of hi (by decide)
  obtain ⟨f, hf, hf2⟩ := hA.2.2.1
  refine V_aload_n C dX3_state_11 (by rfl) ?_
  refine V_get C (ci := 3) hx0 rfl wu_X3 7 (by decide) fl_X3_37 rfl (by rfl) dX3_state_12 ?_
  refine V_iload_n C dX3_state_15 (by rfl) ?_
  refine N_iald C hf hj (by decide) dX3_state_16 ?_
  refine V_istore_n C dX3_state_17 (by decide) ?_
  refine V_aload_n C dX3_state_18 (by rfl) ?_
  refine V_get C (ci := 3) hx0 rfl wu_X3 7 (by decide) fl_X3_37 rfl (by rfl) dX3_state_19 ?_
  refine V_iload_n C dX3_state_22 (by rfl) ?_
  refine V_iload_n C dX3_state_23 (by rfl) ?_
  refine N_iast C hf hj (by decide) dX3_state_24 ?_
  refine V_iload_n C dX3_state_25 (by rfl) ?_
  exact V_iret C hr (by decide) (by decide) dX3_state_26 (by rw [show oState σ (nI j) v = (0, gPa σ j, sw σ 2 (va_up (σ.2 2) j v)) by simp only [oState, hv, hi, ej]; rfl]; exact ⟨rfl, by rw [hf2 j hj], A, G, ob, stateC hC hI hf hf2, FrC.of (fun a ha => mput_ne (ne_tag ha (hG.2.1 3 (by decide) (by decide)) (by decide)))⟩)
theorem bytesC {ct : Nat → ClassId} {A : Nat → Nat → Nat} {G ob : Nat → Nat} {σ : Sg} {M : Mem} {x B : Nat} (hC : RepC ct A G ob σ M x) (hI : Inv B σ) {o : Nat} (ho : gThere σ o = 1) {f : Nat → Int32} (hf : M (A 10 o) = some (.inl (ct 0, 8, .inl f))) (hf2 : ∀ j, j < 8 → f j = gOc σ (8 * o + j)) {j : Nat} (hj : j < 8) {v : Int32} : RepC ct A G ob (sw σ 1 (va_up (σ.2 1) (8 * o + j) v)) (mput M (A 10 o) (.inl (ct 0, 8, .inl (upd f j v)))) x := by
  obtain ⟨hx0, hG, hO, ⟨⟨tf, a1, a2⟩, ⟨s9, a3, a4⟩, a5, ⟨uf, a6, a7⟩, a8⟩, hT, hS, hR⟩ := hC
  have g3 : G (A 10 o) = 16 * o + 10 := (hG.2.2.2.2.1 o ho).2.2.1
  have hs : ∀ a, G a ≠ 16 * o + 10 → mput M (A 10 o) (.inl (ct 0, 8, .inl (upd f j v))) a = M a := fun a ha => mput_ne (fun e => ha (by rw [e]; exact g3))
  have ow : ∀ k c, ownr (sw σ 1 (va_up (σ.2 1) (8 * o + j) v)) k c = ownr σ k c := fun k c => ownr_congr k c (fun _ _ => rfl) (fun _ _ _ _ _ => rfl) (fun _ _ => rfl)
  have ne : ∀ o' i, o' ≠ o → i < 8 → gOc σ (8 * o' + i) = va_up (σ.2 1) (8 * o + j) v (8 * o' + i) := fun o' i h hi => by rw [va_up_ne _ _ (by omega)]
  refine ⟨?_, hG, hO, ⟨⟨tf, ?_, a2⟩, ⟨s9, ?_, a4⟩, a5.same (hs _ (by rw [hG.2.1 3 (by decide) (by decide)]; omega)), ⟨uf, ?_, a7⟩, fun k hk => ?_⟩, fun o' ho' => ?_, fun k hk => ?_, fun k r h1 h2 h3 => ?_⟩
  · rw [hs x (by rw [hG.1]; omega)]; exact hx0
  · rw [hs _ (by rw [hG.2.1 1 (by decide) (by decide)]; omega)]; exact a1
  · rw [hs _ (by rw [hG.2.1 2 (by decide) (by decide)]; omega)]; exact a3
  · rw [hs _ (by rw [hG.2.1 4 (by decide) (by decide)]; omega)]; exact a6
  · obtain ⟨g, q1, q2⟩ := a8 k hk
    exact ⟨g, by rw [hs _ (by rw [hG.2.2.1 k hk]; omega)]; exact q1, q2⟩
  · have t := hG.2.2.2.2.1 o' ho'
    by_cases e : o' = o
    · subst e
      obtain ⟨q1, q2, q3, q4⟩ := hT o' ho'
      refine ⟨by rw [hs _ (by rw [t.1]; omega)]; exact q1, q2.same (hs _ (by rw [t.2.1]; omega)), arI.new (fun i hi => ?_), (q4.same (hs _ (by rw [t.2.2.2]; omega))).to (fun i _ => by rw [ow]; rfl)⟩
      show upd f j v i = va_up (σ.2 1) (8 * o' + j) v (8 * o' + i)
      by_cases e2 : i = j
      · subst e2; rw [va_up_self, pk_us]
      · rw [pk_un e2, va_up_ne _ _ (by omega)]; exact hf2 i hi
    · exact (hT o' ho').mv (hs _ (by rw [t.1]; omega)) (hs _ (by rw [t.2.1]; omega)) (hs _ (by rw [t.2.2.1]; omega)) (hs _ (by rw [t.2.2.2]; omega)) rfl (fun _ _ => rfl) (fun i hi => ne o' i e hi) (fun i _ => (ow _ _).symm)
  · have t := hG.2.2.2.1 k hk
    exact (hS k hk).mv (hs _ (by rw [t.1]; omega)) (hs _ (by rw [t.2]; omega)) rfl rfl rfl rfl (fun _ _ => rfl) rfl rfl
  · exact (hR k r h1 h2 h3).mv (hs _ (by rw [hG.2.2.2.2.2 r (Nat.lt_of_lt_of_le h3 (rbx_le hI _))]; omega)) rfl rfl (ow _ _) rfl
set_option maxHeartbeats 4000000 in
set_option maxRecDepth 100000 in
theorem c_bytes (l : Launch) (hl : l.stackTraces = false) (base : Nat) (D : va_G) (ct : Nat → ClassId) (sa : Nat → Nat) {A : Nat → Nat → Nat} {G ob : Nat → Nat} {σ : Sg} {M : Mem} {x B : Nat} (hC : RepC ct A G ob σ M x) (hI : Inv B σ) (hB : B ≤ 600) (k i v : Int32) :
    CT l yX3_bytes (.code yX3_bytes cX3_bytes 6 (some .int) :: WL) (rmK 7 3 18) base D ct sa M [.ref x, .int k, .int i, .int v] (PostC ct G M x (oBytes σ k i v)) (PxC nmN M (oBytes σ k i v)) := by
  refine CT.of hl (by decide) (Nat.le_of_ble_eq_true rfl) ?_
  intro p e s m below meth c C hr hx
  obtain ⟨hx0, hG, hO, hA, hT, hS, hR⟩ := id hC
  refine V_aload_n C dX3_bytes_0 (by rfl) ?_
  refine V_iload_n C dX3_bytes_1 (by rfl) ?_
  refine V_callV C hx (As := [.int k]) (c_existing l hl base D ct sa hC hI hB k) w_X3_63 hx0 rfl rfl (by decide) (by decide) ⟨by decide, by decide⟩ dX3_bytes_2 (by decide) (by decide) (fun E M1 h => by obtain ⟨h1, rfl, rfl⟩ := h; rw [show oBytes σ k i v = (1, 0, σ) by simp [oBytes, h1]]; exact ⟨Nat.one_pos, rfl, rfl⟩) (fun v9 M1 hv => ?_)
  obtain ⟨hk, rfl, rfl⟩ := hv
  obtain ⟨o, rfl, ho, ht, eo⟩ := isO_of hk (Nat.le_trans hI.1.1 hB)
  rw [eo]
  refine V_astore C dX3_bytes_5 (by decide) ?_
  refine V_iload_n C dX3_bytes_7 (by rfl) ?_
  refine V_bipush C (nI 8) dX3_bytes_8 (by decide) ?_
  refine V_callS C hx (As := [.int i, .int (nI 8)]) (c_checkIndex l hl base D ct sa M1 i 8 (by decide)) w_X3_71 rfl (by decide) (by decide) ⟨by decide, by decide⟩ dX3_bytes_10 (by decide) (by decide) (fun E M2 h => by obtain ⟨h1, rfl, rfl⟩ := h; rw [show oBytes σ (nI o) i v = (2, 0, σ) by simp [oBytes, hk, h1]]; exact ⟨Nat.zero_lt_succ _, rfl, rfl⟩) (fun v9 M2 hv => ?_)
  obtain ⟨hi, rfl, rfl⟩ := hv
  obtain ⟨j, hj, rfl, ej⟩ := isN_of hi (by decide)
  obtain ⟨ht0, ht1, ⟨f, hf, hf2⟩, ht3⟩ := hT o ht
  refine V_iload_n C dX3_bytes_13 (by rfl) ?_
  refine V_iconst C (-1) dX3_bytes_14 (by decide) ?_
  refine V_icmp_lt C 25 dX3_bytes_15 (by decide) (fun h15 => ?_) (fun h15 => ?_)
  · exact V_throw C hx rfl (E := "java/lang/IndexOutOfBoundsException") (by decide +kernel) cl_X3_135 ini_EB (List.mem_of_getElem? (i := 7) rfl) ea_B eg_B dX3_bytes_25 dX3_bytes_28 dX3_bytes_29 dX3_bytes_31 dX3_bytes_34 (by decide) (by decide) (by decide) (by decide) (by decide) (by decide) (by rw [show oBytes σ (nI o) (nI j) v = (2, 0, σ) by simp only [oBytes, hk, hi]; rw [if_neg (by decide), if_pos (Or.inr (Or.inl h15))]]; exact ⟨Nat.zero_lt_succ _, rfl, rfl⟩)
  · refine V_iload_n C dX3_bytes_18 (by rfl) ?_
    refine V_sipush C (255) dX3_bytes_19 (by decide) ?_
    refine V_icmp_le C 35 dX3_bytes_22 (by decide) (fun h22 => ?_) (fun h22 => ?_)
    · have er : oBytes σ (nI o) (nI j) v = (0, gOc σ (8 * o + j), sw σ 1 (va_up (σ.2 1) (8 * o + j) (if 0 ≤ v then v else gOc σ (8 * o + j)))) := by
        simp only [oBytes, hk, hi, eo, ej]
        rw [if_neg (by decide), if_neg (by rintro (h | h | h); exact absurd h (by decide); exact h15 h; exact Int32.not_lt.mpr h22 h)]
      refine V_aload C dX3_bytes_35 (by rfl) ?_
      refine V_get C (ci := 2) ht0 rfl wu_X2 3 (by decide) fl_X3_140 rfl (by rfl) dX3_bytes_37 ?_
      refine V_iload_n C dX3_bytes_40 (by rfl) ?_
      refine N_iald C hf hj (by decide) dX3_bytes_41 ?_
      refine V_istore C dX3_bytes_42 (by decide) ?_
      refine V_iload_n C dX3_bytes_44 (by rfl) ?_
      refine V_iconst C (-1) dX3_bytes_45 (by decide) ?_
      refine V_icmp_eq C 57 dX3_bytes_46 (by decide) (fun h46 => ?_) (fun h46 => ?_)
      · refine V_iload C dX3_bytes_57 (by rfl) ?_
        exact V_iret C hr (by decide) (by decide) dX3_bytes_59 (by rw [er, if_neg (by rw [h46]; decide), va_up_id (σ.2 1), sw_id]; exact ⟨rfl, by rw [hf2 j hj], A, G, ob, hC, FrC.rfl⟩)
      · have hv0 : 0 ≤ v := by
          have e1 : (-1 : Int32) ≤ v := Int32.not_lt.mp h15
          rw [Int32.le_iff_toInt_le] at e1 ⊢
          have e2 : v.toInt ≠ (-1 : Int32).toInt := fun e => h46 (Int32.toInt_inj.mp e)
          have e3 : (-1 : Int32).toInt = -1 := by decide
          have e4 : (0 : Int32).toInt = 0 := by decide
          omega
        refine V_aload C dX3_bytes_49 (by rfl) ?_
        refine V_get C (ci := 2) ht0 rfl wu_X2 3 (by decide) fl_X3_140 rfl (by rfl) dX3_bytes_51 ?_
        refine V_iload_n C dX3_bytes_54 (by rfl) ?_
        refine V_iload_n C dX3_bytes_55 (by rfl) ?_
        refine N_iast C hf hj (by decide) dX3_bytes_56 ?_
        refine V_iload C dX3_bytes_57 (by rfl) ?_
        exact V_iret C hr (by decide) (by decide) dX3_bytes_59 (by rw [er, if_pos hv0]; exact ⟨rfl, by rw [hf2 j hj], A, G, ob, bytesC hC hI ht hf hf2 hj, FrC.of (fun a ha => mput_ne (ne_tag ha (hG.2.2.2.2.1 o ht).2.2.1 (by omega)))⟩)
    · exact V_throw C hx rfl (E := "java/lang/IndexOutOfBoundsException") (by decide +kernel) cl_X3_135 ini_EB (List.mem_of_getElem? (i := 7) rfl) ea_B eg_B dX3_bytes_25 dX3_bytes_28 dX3_bytes_29 dX3_bytes_31 dX3_bytes_34 (by decide) (by decide) (by decide) (by decide) (by decide) (by decide) (by rw [show oBytes σ (nI o) (nI j) v = (2, 0, σ) by simp only [oBytes, hk, hi]; rw [if_neg (by decide), if_pos (Or.inr (Or.inr (Int32.not_le.mp h22)))]]; exact ⟨Nat.zero_lt_succ _, rfl, rfl⟩)
theorem cpy_at {f g : Nat → Int32} {j n sp dp : Nat} (h : j < n) : va_cpy f g sp dp n (dp + j) = f (sp + j) := by
  rw [pk_cpy_in (by omega) (by omega)]; congr 1; omega
theorem pushC {ct : Nat → ClassId} {A : Nat → Nat → Nat} {G ob : Nat → Nat} {σ : Sg} {M : Mem} {x B : Nat} (hC : RepC ct A G ob σ M x) (hI : Inv B σ) (hlt : gSt σ < 30) {f g : Nat → Int32} (hf2 : ∀ j, j < 10 → f j = σ.2 2 j) :
    RepC ct A G ob (sf (sw σ 5 (va_cpy (σ.2 2) (σ.2 5) 0 (8 * gSt σ) 8)) 13 (sk (gSt σ + 1))) (mput (mput M (A 5 (gSt σ)) (.inl (ct 0, 8, .inl (va_cpy f g 0 0 8)))) x (xE A (sf (sw σ 5 (va_cpy (σ.2 2) (σ.2 5) 0 (8 * gSt σ) 8)) 13 (sk (gSt σ + 1))))) x := by
  obtain ⟨hx0, hG, hO, ⟨⟨tf, a1, a2⟩, ⟨s9, a3, a4⟩, a5, ⟨uf, a6, a7⟩, a8⟩, hT, hS, hR⟩ := hC
  generalize hσ' : sf (sw σ 5 (va_cpy (σ.2 2) (σ.2 5) 0 (8 * gSt σ) 8)) 13 (sk (gSt σ + 1)) = σ'
  generalize hM' : mput (mput M (A 5 (gSt σ)) (.inl (ct 0, 8, .inl (va_cpy f g 0 0 8)))) x (xE A σ') = M'
  have g3 : G (A 5 (gSt σ)) = 16 * gSt σ + 5 := hG.2.2.1 _ hlt
  have hs : ∀ a, G a ≠ 13 → G a ≠ 16 * gSt σ + 5 → M' a = M a := fun a h1 h2 => by
    rw [← hM', mput_ne (fun e => h1 (by rw [e]; exact hG.1)), mput_ne (fun e => h2 (by rw [e]; exact g3))]
  have e1 : ∀ q, q ≠ 13 → σ'.1 q = σ.1 q := fun q hq => by rw [← hσ', sf_1, if_neg hq]; rfl
  have e2 : ∀ q, q ≠ 5 → σ'.2 q = σ.2 q := fun q hq => by rw [← hσ', sf_2, sw_2, if_neg hq]
  have e5 : σ'.2 5 = va_cpy (σ.2 2) (σ.2 5) 0 (8 * gSt σ) 8 := by rw [← hσ']; rfl
  have e13 : gSt σ' = gSt σ + 1 := by rw [← hσ']; rfl
  have rb : ∀ k, rbx σ' k = rbx σ k := fun k => by unfold rbx gSv gRb gRows; rw [e1 4 (by decide), e1 9 (by decide), e1 11 (by decide)]
  have ow : ∀ k c, ownr σ' k c = ownr σ k c := fun k c => ownr_congr k c (fun j _ => rb j) (fun _ _ _ _ _ => by unfold gPl; rw [e1 12 (by decide)]) (fun _ _ => by unfold gNum; rw [e1 7 (by decide)])
  have t0 : ∀ o, gThere σ' o = gThere σ o := fun o => by unfold gThere; rw [e1 2 (by decide)]
  have v0 : gSv σ' = gSv σ := by unfold gSv; rw [e1 4 (by decide)]
  refine ⟨by rw [← hM', mput_eq], ?_, ?_, ⟨⟨tf, ?_, fun j hj => a2 j (by unfold gAlive at hj ⊢; rw [e1 1 (by decide)] at hj; exact hj)⟩, ⟨s9, ?_, a4⟩, ?_, ⟨uf, ?_, a7⟩, fun k hk => ?_⟩, fun o' ho' => ?_, fun k hk => ?_, fun k r h1 h2 h3 => ?_⟩
  · unfold RepG gThere gRows at hG ⊢; rw [e1 2 (by decide), e1 11 (by decide)]; exact hG
  · unfold RepO gAlive gMade gThere at hO ⊢; rw [e1 0 (by decide), e1 1 (by decide), e1 2 (by decide)]; exact hO
  · rw [hs _ (by rw [hG.2.1 1 (by decide) (by decide)]; decide) (by rw [hG.2.1 1 (by decide) (by decide)]; omega)]; exact a1
  · rw [hs _ (by rw [hG.2.1 2 (by decide) (by decide)]; decide) (by rw [hG.2.1 2 (by decide) (by decide)]; omega)]; exact a3
  · rw [e2 2 (by decide)]; exact a5.same (hs _ (by rw [hG.2.1 3 (by decide) (by decide)]; decide) (by rw [hG.2.1 3 (by decide) (by decide)]; omega))
  · rw [hs _ (by rw [hG.2.1 4 (by decide) (by decide)]; decide) (by rw [hG.2.1 4 (by decide) (by decide)]; omega)]; exact a6
  · by_cases e : k = gSt σ
    · subst e
      refine ⟨va_cpy f g 0 0 8, ?_, fun _ j hj => ?_⟩
      · rw [← hM', mput_ne (ne_tag g3 hG.1 (by omega)), mput_eq]
      · have q1 : va_cpy f g 0 0 8 j = f j := by have := cpy_at (f := f) (g := g) (sp := 0) (dp := 0) hj; simpa using this
        unfold gPu
        rw [q1, e5, cpy_at hj, hf2 j (by omega), Nat.zero_add]
    · obtain ⟨h9, q1, q2⟩ := a8 k hk
      refine ⟨h9, by rw [hs _ (by rw [hG.2.2.1 k hk]; omega) (by rw [hG.2.2.1 k hk]; omega)]; exact q1, fun h j hj => ?_⟩
      rw [q2 (by rw [e13] at h; omega) j hj]
      unfold gPu
      rw [e5, pk_cpy_out (by omega)]
  · rw [t0] at ho'
    have t := hG.2.2.2.2.1 o' ho'
    exact (hT o' ho').mv (hs _ (by rw [t.1]; omega) (by rw [t.1]; omega)) (hs _ (by rw [t.2.1]; omega) (by rw [t.2.1]; omega)) (hs _ (by rw [t.2.2.1]; omega) (by rw [t.2.2.1]; omega)) (hs _ (by rw [t.2.2.2]; omega) (by rw [t.2.2.2]; omega)) (by unfold gGlob; rw [e1 3 (by decide)]) (fun _ _ => by unfold gCe; rw [e2 0 (by decide)]) (fun i hi => by unfold gOc; rw [e2 1 (by decide)]) (fun i _ => by rw [ow, v0])
  · have t := hG.2.2.2.1 k hk
    exact (hS k hk).mv (hs _ (by rw [t.1]; omega) (by rw [t.1]; omega)) (hs _ (by rw [t.2]; omega) (by rw [t.2]; omega)) v0 (by unfold gNum; rw [e1 7 (by decide)]) (by unfold gFst; rw [e1 8 (by decide)]) (by unfold gSb; rw [e1 10 (by decide)]) (fun _ _ => by unfold gHad; rw [e2 3 (by decide)]) (rb _) (rb _)
  · rw [v0] at h1
    rw [rb] at h2 h3
    have t := hG.2.2.2.2.2 r (Nat.lt_of_lt_of_le h3 (rbx_le hI _))
    exact (hR k r h1 h2 h3).mv (hs _ (by rw [t]; omega) (by rw [t]; omega)) (by unfold gPl; rw [e1 12 (by decide)]) (by unfold gVal; rw [e2 4 (by decide)]) (ow _ _) (rb _)
theorem ownS_push {B : Nat} {σ : Sg} (hI : Inv B σ) : ownS (sf (sw σ 5 (va_cpy (σ.2 2) (σ.2 5) 0 (8 * gSt σ) 8)) 13 (sk (gSt σ + 1))) = ownS σ + 1 := by
  show (if gSv σ = 0 then gSt σ + 1 else gSt σ + 1 - gSb σ (gSv σ - 1)) = ownS σ + 1
  unfold ownS
  split
  · rfl
  · have := hI.2.2.2.1.2.2.1 (gSv σ - 1) (by omega); omega
set_option maxHeartbeats 4000000 in
set_option maxRecDepth 100000 in
theorem c_push (l : Launch) (hl : l.stackTraces = false) (base : Nat) (D : va_G) (ct : Nat → ClassId) (sa : Nat → Nat) {A : Nat → Nat → Nat} {G ob : Nat → Nat} {σ : Sg} {M : Mem} {x B : Nat} (hC : RepC ct A G ob σ M x) (hI : Inv B σ) (hB : B ≤ 600) :
    CT l yX3_push (.code yX3_push cX3_push 1 (some .int) :: WL) (rmK 7 3 18) base D ct sa M [.ref x] (PostC ct G M x (oPush σ)) (PxC nmU M (oPush σ)) := by
  refine CT.of hl (by decide) (Nat.le_of_ble_eq_true rfl) ?_
  intro p e s m below meth c C hr hx
  obtain ⟨hx0, hG, hO, hA, hT, hS, hR⟩ := id hC
  obtain ⟨⟨tf, a1, a2⟩, ⟨s9, a3, a4⟩, ⟨f, hf, hf2⟩, ⟨uf, a6, a7⟩, a8⟩ := hA
  obtain ⟨⟨i1, i2, i3, i4, i5, i6, i7, i8⟩, iT, iS, ⟨r1, r2, r3, r4, r5, r6⟩, -⟩ := id hI
  refine V_aload_n C dX3_push_0 (by rfl) ?_
  refine V_get C (ci := 3) hx0 rfl wu_X3 9 (by decide) fl_X3_46 rfl (by rfl) dX3_push_1 ?_
  refine V_bipush C (nI 30) dX3_push_4 (by decide) ?_
  refine V_icmp_lt C 19 dX3_push_6 (by decide) (fun h6 => ?_) (fun h6 => ?_)
  · have hlt : gSt σ < 30 := (nI_ltI (by omega) (by decide)).mp h6
    obtain ⟨g, hg, hg2⟩ := a8 (gSt σ) hlt
    have ne1 : A 5 (gSt σ) ≠ x := ne_tag (hG.2.2.1 _ hlt) hG.1 (by omega)
    refine V_aload_n C dX3_push_19 (by rfl) ?_
    refine V_get C (ci := 3) hx0 rfl wu_X3 7 (by decide) fl_X3_37 rfl (by rfl) dX3_push_20 ?_
    refine V_iconst C (nI 0) dX3_push_23 (by decide) ?_
    refine V_aload_n C dX3_push_24 (by rfl) ?_
    refine V_get C (ci := 3) hx0 rfl wu_X3 8 (by decide) fl_X3_43 rfl (by rfl) dX3_push_25 ?_
    refine V_aload_n C dX3_push_28 (by rfl) ?_
    refine V_get C (ci := 3) hx0 rfl wu_X3 9 (by decide) fl_X3_46 rfl (by rfl) dX3_push_29 ?_
    refine N_aldU C a6 hlt (by decide) (a7 _ hlt) dX3_push_32 ?_
    refine V_iconst C (nI 0) dX3_push_33 (by decide) ?_
    refine V_bipush C (nI 8) dX3_push_34 (by decide) ?_
    refine N_copy C hf hg ml_X3_105 (by decide) (by decide) (by decide) (by decide) (by decide) (by decide) dX3_push_36 ?_
    refine V_aload_n C dX3_push_39 (by rfl) ?_
    refine V_dup C dX3_push_40 rfl ?_
    refine V_get C (ci := 3) ((mput_ne ne1.symm).trans hx0) rfl wu_X3 9 (by decide) fl_X3_46 rfl (by rfl) dX3_push_41 ?_
    refine V_iconst C (1) dX3_push_44 (by decide) ?_
    refine V_iadd C dX3_push_45 ?_
    refine V_top (nI_1 _) ?_
    refine V_put C (ci := 3) ((mput_ne ne1.symm).trans hx0) rfl wu_X3 9 (by decide) fl_X3_46 rfl tyX3 tyX3_ok nmX3 rfl (by rfl) (by rfl) (Nat.le_of_ble_eq_true rfl) dX3_push_46 ?_
    refine VV.eqv (M' := mput (mput M (A 5 (gSt σ)) (.inl (ct 0, 8, .inl (va_cpy f g 0 0 8)))) x (xE A (sf (sw σ 5 (va_cpy (σ.2 2) (σ.2 5) 0 (8 * gSt σ) 8)) 13 (sk (gSt σ + 1))))) rfl rfl ?_
    have hC2 := pushC hC hI hlt (f := f) (g := g) hf2
    have hs2 := fun h => ((hC2.2.2.2.2.2.1 (gSv σ - 1) (by omega)).1 h).1
    obtain ⟨b1, b2, b3, ⟨-, ⟨s8, b4, b5⟩, -⟩, -⟩ := id hC2
    refine V_aload_n C dX3_push_49 (by rfl) ?_
    refine V_callV C hx (As := []) (c_pushedSince l hl base D ct sa b1 i5 (by show gSt σ + 1 ≤ 30; omega) b4 b5 (fun h => hs2 (by show gSv σ - 1 < gSv σ; have : 0 < gSv σ := h; omega)) (fun h => by have := r3 (gSv σ - 1) (by have : 0 < gSv σ := h; omega); show gSb σ (gSv σ - 1) ≤ gSt σ + 1; omega)) w_X3_131 b1 rfl rfl (by decide) (by decide) ⟨by decide, by decide⟩ dX3_push_50 (by decide) (by decide) (fun _ _ h => h.elim) (fun v9 M1 hv => ?_)
    obtain ⟨rfl, rfl⟩ := hv
    refine VV.eqv (st' := [.int (nI (ownS σ + 1))]) rfl (by rw [ownS_push hI]; rfl) ?_
    exact V_iret C hr (by decide) (by decide) dX3_push_53 (by rw [show oPush σ = (0, nI (ownS σ + 1), _) by unfold oPush; rw [if_neg (by omega)]]; exact ⟨rfl, rfl, A, G, ob, hC2, FrC.of (fun a ha => by rw [mput_ne (ne_tag ha hG.1 (by decide)), mput_ne (ne_tag ha (hG.2.2.1 _ hlt) (by omega))])⟩)
  · exact V_throw C hx rfl (E := "java/lang/UnsupportedOperationException") (by decide +kernel) cl_X3_50 ini_EU (List.mem_of_getElem? (i := 6) rfl) ea_U eg_U dX3_push_9 dX3_push_12 dX3_push_13 dX3_push_15 dX3_push_18 (by decide) (by decide) (by decide) (by decide) (by decide) (by decide) (by rw [show oPush σ = (1, 0, σ) by unfold oPush; rw [if_pos (by rcases Nat.lt_or_ge (gSt σ) 30 with h | h; exact absurd ((nI_ltI (by omega) (by decide)).mpr h) h6; omega)]]; exact ⟨Nat.zero_lt_succ _, rfl, rfl⟩)
theorem popC {ct : Nat → ClassId} {A : Nat → Nat → Nat} {G ob : Nat → Nat} {σ : Sg} {M : Mem} {x B : Nat} (hC : RepC ct A G ob σ M x) (hI : Inv B σ) (hpos : 0 < gSt σ) {f g : Nat → Int32} (hf2 : ∀ j, j < 10 → f j = σ.2 2 j) (hg2 : ∀ j, j < 8 → g j = gPu σ (8 * (gSt σ - 1) + j)) :
    RepC ct A G ob (sw (sf σ 13 (sk (gSt σ - 1))) 2 (va_cpy (σ.2 5) (σ.2 2) (8 * (gSt σ - 1)) 0 8)) (mput (mput M x (xE A (sw (sf σ 13 (sk (gSt σ - 1))) 2 (va_cpy (σ.2 5) (σ.2 2) (8 * (gSt σ - 1)) 0 8)))) (A 3 0) (.inl (ct 0, 10, .inl (va_cpy g f 0 0 8)))) x := by
  obtain ⟨hx0, hG, hO, ⟨⟨tf, a1, a2⟩, ⟨s9, a3, a4⟩, a5, ⟨uf, a6, a7⟩, a8⟩, hT, hS, hR⟩ := hC
  generalize hσ' : sw (sf σ 13 (sk (gSt σ - 1))) 2 (va_cpy (σ.2 5) (σ.2 2) (8 * (gSt σ - 1)) 0 8) = σ'
  generalize hM' : mput (mput M x (xE A σ')) (A 3 0) (.inl (ct 0, 10, .inl (va_cpy g f 0 0 8))) = M'
  have g3 : G (A 3 0) = 3 := hG.2.1 3 (by decide) (by decide)
  have hs : ∀ a, G a ≠ 13 → G a ≠ 3 → M' a = M a := fun a h1 h2 => by
    rw [← hM', mput_ne (fun e => h2 (by rw [e]; exact g3)), mput_ne (fun e => h1 (by rw [e]; exact hG.1))]
  have e1 : ∀ q, q ≠ 13 → σ'.1 q = σ.1 q := fun q hq => by rw [← hσ', sw_1, sf_1, if_neg hq]
  have e2 : ∀ q, q ≠ 2 → σ'.2 q = σ.2 q := fun q hq => by rw [← hσ', sw_2, if_neg hq]; rfl
  have e5 : σ'.2 2 = va_cpy (σ.2 5) (σ.2 2) (8 * (gSt σ - 1)) 0 8 := by rw [← hσ']; rfl
  have e13 : gSt σ' = gSt σ - 1 := by rw [← hσ']; rfl
  have rb : ∀ k, rbx σ' k = rbx σ k := fun k => by unfold rbx gSv gRb gRows; rw [e1 4 (by decide), e1 9 (by decide), e1 11 (by decide)]
  have ow : ∀ k c, ownr σ' k c = ownr σ k c := fun k c => ownr_congr k c (fun j _ => rb j) (fun _ _ _ _ _ => by unfold gPl; rw [e1 12 (by decide)]) (fun _ _ => by unfold gNum; rw [e1 7 (by decide)])
  have t0 : ∀ o, gThere σ' o = gThere σ o := fun o => by unfold gThere; rw [e1 2 (by decide)]
  have v0 : gSv σ' = gSv σ := by unfold gSv; rw [e1 4 (by decide)]
  refine ⟨by rw [← hM', mput_ne (ne_tag hG.1 g3 (by decide)), mput_eq], ?_, ?_, ⟨⟨tf, ?_, fun j hj => a2 j (by unfold gAlive at hj ⊢; rw [e1 1 (by decide)] at hj; exact hj)⟩, ⟨s9, ?_, a4⟩, ?_, ⟨uf, ?_, a7⟩, fun k hk => ?_⟩, fun o' ho' => ?_, fun k hk => ?_, fun k r h1 h2 h3 => ?_⟩
  · unfold RepG gThere gRows at hG ⊢; rw [e1 2 (by decide), e1 11 (by decide)]; exact hG
  · unfold RepO gAlive gMade gThere at hO ⊢; rw [e1 0 (by decide), e1 1 (by decide), e1 2 (by decide)]; exact hO
  · rw [hs _ (by rw [hG.2.1 1 (by decide) (by decide)]; decide) (by rw [hG.2.1 1 (by decide) (by decide)]; omega)]; exact a1
  · rw [hs _ (by rw [hG.2.1 2 (by decide) (by decide)]; decide) (by rw [hG.2.1 2 (by decide) (by decide)]; omega)]; exact a3
  · refine ⟨va_cpy g f 0 0 8, by rw [← hM', mput_eq], fun j hj => ?_⟩
    rw [e5]
    rcases Nat.lt_or_ge j 8 with h | h
    · have q1 : va_cpy g f 0 0 8 j = g j := by have := cpy_at (f := g) (g := f) (sp := 0) (dp := 0) h; simpa using this
      have q2 : va_cpy (σ.2 5) (σ.2 2) (8 * (gSt σ - 1)) 0 8 j = σ.2 5 (8 * (gSt σ - 1) + j) := by have := cpy_at (f := σ.2 5) (g := σ.2 2) (sp := 8 * (gSt σ - 1)) (dp := 0) h; simpa using this
      rw [q1, q2]; exact hg2 j h
    · rw [pk_cpy_out (by omega), pk_cpy_out (by omega)]; exact hf2 j hj
  · rw [hs _ (by rw [hG.2.1 4 (by decide) (by decide)]; decide) (by rw [hG.2.1 4 (by decide) (by decide)]; omega)]; exact a6
  · obtain ⟨h9, q1, q2⟩ := a8 k hk
    refine ⟨h9, by rw [hs _ (by rw [hG.2.2.1 k hk]; omega) (by rw [hG.2.2.1 k hk]; omega)]; exact q1, fun h j hj => ?_⟩
    rw [q2 (by rw [e13] at h; omega) j hj]
    unfold gPu
    rw [e2 5 (by decide)]
  · rw [t0] at ho'
    have t := hG.2.2.2.2.1 o' ho'
    exact (hT o' ho').mv (hs _ (by rw [t.1]; omega) (by rw [t.1]; omega)) (hs _ (by rw [t.2.1]; omega) (by rw [t.2.1]; omega)) (hs _ (by rw [t.2.2.1]; omega) (by rw [t.2.2.1]; omega)) (hs _ (by rw [t.2.2.2]; omega) (by rw [t.2.2.2]; omega)) (by unfold gGlob; rw [e1 3 (by decide)]) (fun _ _ => by unfold gCe; rw [e2 0 (by decide)]) (fun i hi => by unfold gOc; rw [e2 1 (by decide)]) (fun i _ => by rw [ow, v0])
  · have t := hG.2.2.2.1 k hk
    exact (hS k hk).mv (hs _ (by rw [t.1]; omega) (by rw [t.1]; omega)) (hs _ (by rw [t.2]; omega) (by rw [t.2]; omega)) v0 (by unfold gNum; rw [e1 7 (by decide)]) (by unfold gFst; rw [e1 8 (by decide)]) (by unfold gSb; rw [e1 10 (by decide)]) (fun _ _ => by unfold gHad; rw [e2 3 (by decide)]) (rb _) (rb _)
  · rw [v0] at h1
    rw [rb] at h2 h3
    have t := hG.2.2.2.2.2 r (Nat.lt_of_lt_of_le h3 (rbx_le hI _))
    exact (hR k r h1 h2 h3).mv (hs _ (by rw [t]; omega) (by rw [t]; omega)) (by unfold gPl; rw [e1 12 (by decide)]) (by unfold gVal; rw [e2 4 (by decide)]) (ow _ _) (rb _)
theorem ownS_pop {B : Nat} {σ : Sg} (hI : Inv B σ) (hp : 0 < ownS σ) : ownS (sw (sf σ 13 (sk (gSt σ - 1))) 2 (va_cpy (σ.2 5) (σ.2 2) (8 * (gSt σ - 1)) 0 8)) = ownS σ - 1 ∧ (0 < gSv σ → gSb σ (gSv σ - 1) ≤ gSt σ - 1) := by
  refine ⟨?_, fun h => ?_⟩
  · show (if gSv σ = 0 then gSt σ - 1 else gSt σ - 1 - gSb σ (gSv σ - 1)) = ownS σ - 1
    unfold ownS
    split
    · rfl
    · omega
  · unfold ownS at hp
    rw [if_neg (by omega)] at hp
    omega
set_option maxHeartbeats 4000000 in
set_option maxRecDepth 100000 in
theorem c_pop (l : Launch) (hl : l.stackTraces = false) (base : Nat) (D : va_G) (ct : Nat → ClassId) (sa : Nat → Nat) {A : Nat → Nat → Nat} {G ob : Nat → Nat} {σ : Sg} {M : Mem} {x B : Nat} (hC : RepC ct A G ob σ M x) (hI : Inv B σ) (hB : B ≤ 600) :
    CT l yX3_pop (.code yX3_pop cX3_pop 1 (some .int) :: WL) (rmK 7 3 18) base D ct sa M [.ref x] (PostC ct G M x (0, oPop σ)) noX := by
  refine CT.of hl (by decide) (Nat.le_of_ble_eq_true rfl) ?_
  intro p e s m below meth c C hr hx
  obtain ⟨hx0, hG, hO, hA, hT, hS, hR⟩ := id hC
  obtain ⟨⟨tf, a1, a2⟩, ⟨s9, a3, a4⟩, ⟨f, hf, hf2⟩, ⟨uf, a6, a7⟩, a8⟩ := hA
  obtain ⟨⟨i1, i2, i3, i4, i5, i6, i7, i8⟩, iT, iS, ⟨r1, r2, r3, r4, r5, r6⟩, -⟩ := id hI
  refine V_aload_n C dX3_pop_0 (by rfl) ?_
  refine V_callV C hx (As := []) (c_pushedSince l hl base D ct sa hx0 i5 i6 a3 a4 (fun h => ((hS _ (by omega)).1 (by omega)).1) (fun h => r3 _ (by omega))) w_X3_131 hx0 rfl rfl (by decide) (by decide) ⟨by decide, by decide⟩ dX3_pop_1 (by decide) (by decide) (fun _ _ h => h.elim) (fun v9 M1 hv => ?_)
  obtain ⟨rfl, rfl⟩ := hv
  refine VV.eqv (st' := [.int (nI (ownS σ))]) rfl rfl ?_
  have hos : ownS σ ≤ gSt σ := by unfold ownS; split <;> omega
  refine V_if_gt C 9 dX3_pop_4 (by decide) (fun h4 => ?_) (fun h4 => ?_)
  · have hp : 0 < ownS σ := (nI_ltI (a := 0) (by decide) (by omega)).mp h4
    have hpos : 0 < gSt σ := by omega
    obtain ⟨g, hg, hg2⟩ := a8 (gSt σ - 1) (by omega)
    have ne1 : A 3 0 ≠ x := ne_tag (hG.2.1 3 (by decide) (by decide)) hG.1 (by decide)
    have ne2 : A 4 0 ≠ x := ne_tag (hG.2.1 4 (by decide) (by decide)) hG.1 (by decide)
    have ne3 : A 5 (gSt σ - 1) ≠ x := ne_tag (hG.2.2.1 _ (by omega)) hG.1 (by omega)
    refine V_aload_n C dX3_pop_9 (by rfl) ?_
    refine V_dup C dX3_pop_10 rfl ?_
    refine V_get C (ci := 3) hx0 rfl wu_X3 9 (by decide) fl_X3_46 rfl (by rfl) dX3_pop_11 ?_
    refine V_iconst C (1) dX3_pop_14 (by decide) ?_
    refine V_isub C dX3_pop_15 ?_
    refine V_top (y := nI (gSt σ - 1)) (pk_sub (b := 1) (by omega)) ?_
    refine V_put C (ci := 3) hx0 rfl wu_X3 9 (by decide) fl_X3_46 rfl tyX3 tyX3_ok nmX3 rfl (by rfl) (by rfl) (Nat.le_of_ble_eq_true rfl) dX3_pop_16 ?_
    refine VV.eqv (M' := mput M1 x (xE A (sw (sf σ 13 (sk (gSt σ - 1))) 2 (va_cpy (σ.2 5) (σ.2 2) (8 * (gSt σ - 1)) 0 8)))) rfl rfl ?_
    refine V_aload_n C dX3_pop_19 (by rfl) ?_
    refine V_get C (ci := 3) (mput_eq _ _ _) rfl wu_X3 8 (by decide) fl_X3_43 rfl (by rfl) dX3_pop_20 ?_
    refine V_aload_n C dX3_pop_23 (by rfl) ?_
    refine V_get C (ci := 3) (mput_eq _ _ _) rfl wu_X3 9 (by decide) fl_X3_46 rfl (by rfl) dX3_pop_24 ?_
    refine N_aldU C ((mput_ne ne2).trans a6) (show gSt σ - 1 < 30 by omega) (by decide) (a7 _ (show gSt σ - 1 < 30 by omega)) dX3_pop_27 ?_
    refine V_iconst C (nI 0) dX3_pop_28 (by decide) ?_
    refine V_aload_n C dX3_pop_29 (by rfl) ?_
    refine V_get C (ci := 3) (mput_eq _ _ _) rfl wu_X3 7 (by decide) fl_X3_37 rfl (by rfl) dX3_pop_30 ?_
    refine V_iconst C (nI 0) dX3_pop_33 (by decide) ?_
    refine V_bipush C (nI 8) dX3_pop_34 (by decide) ?_
    refine N_copy C ((mput_ne ne3).trans hg) ((mput_ne ne1).trans hf) ml_X3_105 (by decide) (by decide) (by decide) (by decide) (by decide) (by decide) dX3_pop_36 ?_
    have hC2 := popC hC hI hpos (f := f) (g := g) hf2 (hg2 (by omega))
    have hs2 := fun h => ((hC2.2.2.2.2.2.1 (gSv σ - 1) (by omega)).1 h).1
    obtain ⟨b1, b2, b3, ⟨-, ⟨s8, b4, b5⟩, -⟩, -⟩ := id hC2
    have hown := ownS_pop hI hp
    refine V_aload_n C dX3_pop_39 (by rfl) ?_
    refine V_callV C hx (As := []) (c_pushedSince l hl base D ct sa b1 i5 (by show gSt σ - 1 ≤ 30; omega) b4 b5 (fun h => hs2 (by show gSv σ - 1 < gSv σ; have : 0 < gSv σ := h; omega)) (fun h => hown.2 h)) w_X3_131 b1 rfl rfl (by decide) (by decide) ⟨by decide, by decide⟩ dX3_pop_40 (by decide) (by decide) (fun _ _ h => h.elim) (fun v9 M9 hv => ?_)
    obtain ⟨rfl, rfl⟩ := hv
    refine VV.eqv (st' := [.int (nI (ownS σ - 1))]) rfl (by rw [hown.1]; rfl) ?_
    exact V_iret C hr (by decide) (by decide) dX3_pop_43 (by rw [show oPop σ = (nI (ownS σ - 1), _) by unfold oPop; rw [if_neg (by omega)]]; exact ⟨rfl, rfl, A, G, ob, hC2, FrC.of (fun a ha => by rw [mput_ne (ne_tag ha (hG.2.1 3 (by decide) (by decide)) (by decide)), mput_ne (ne_tag ha hG.1 (by decide))])⟩)
  · refine V_iconst C (-1) dX3_pop_7 (by decide) ?_
    exact V_iret C hr (by decide) (by decide) dX3_pop_8 (by rw [show oPop σ = (-1, σ) by unfold oPop; rw [if_pos (by rcases Nat.eq_zero_or_pos (ownS σ) with h | h; exact h; exact absurd ((nI_ltI (a := 0) (by decide) (by omega)).mpr h) h4)]]; exact ⟨rfl, rfl, A, G, ob, hC, FrC.rfl⟩)
end
section
/-! Thing(n, g), Row(t, i, next), Save(), Row.putBack; object -/
theorem mput_none {M : Mem} {a b : Nat} {e : va_E} (h : mput M a e b = none) : b ≠ a ∧ M b = none := by
  by_cases hb : b = a
  · subst hb; rw [mput_eq] at h; cases h
  · rw [mput_ne hb] at h; exact ⟨hb, h⟩
theorem some_ne {M : Mem} {a b : Nat} {e : va_E} (h : M a = some e) (h2 : M b = none) : a ≠ b := fun q => by rw [q, h2] at h; cases h
abbrev ar0 (ct : Nat → ClassId) (N : Nat) : va_E := .inl (ct 0, N, .inl (fun _ => 0))
set_option maxHeartbeats 4000000 in
set_option maxRecDepth 100000 in
theorem c_ThingInit (l : Launch) (hl : l.stackTraces = false) (base : Nat) (D : va_G) (ct : Nat → ClassId) (sa : Nat → Nat) {M : Mem} {t : Nat} (n g : Int32) (hg : g = 0 ∨ g = 1) (ht : M t = some (.inr (2, [.int 0, .int 0, .null, .null, .null]))) :
    CM l yX2_init (.code yX2_init cX2_init 3 none :: WL) (rmK 1 3 24) base D ct sa M [.ref t, .int n, .int g] (fun v M' => v = none ∧ ∃ q1 q2 q3, (M q1 = none ∧ M q2 = none ∧ M q3 = none) ∧ (q1 ≠ q2 ∧ q1 ≠ q3 ∧ q2 ≠ q3) ∧ M' t = some (.inr (2, [.int n, .int g, .ref q1, .ref q2, .ref q3])) ∧ (M' q1 = some (ar0 ct 8) ∧ M' q2 = some (ar0 ct 8) ∧ M' q3 = some (ar0 ct 8)) ∧ ∀ a, a ≠ t → a ≠ q1 → a ≠ q2 → a ≠ q3 → M' a = M a) := by
  refine CM.of hl (by decide) (Nat.le_of_ble_eq_true rfl) ?_
  intro p e s m below meth c C hr hnm
  refine V_aload_n C dX2_init_0 (by rfl) ?_
  refine V_objInit C ml_X2_3 im_oi co_oi dX2_init_1 (by decide) (by decide) ?_
  refine V_aload_n C dX2_init_4 (by rfl) ?_
  refine V_bipush C (nI 8) dX2_init_5 (by decide) ?_
  refine V_newI C 8 ac_int (by decide) (by decide) (by decide) (by decide) (by decide) dX2_init_7 (fun q1 h1 => ?_)
  have n1 : t ≠ q1 := some_ne ht h1
  refine V_putF C (ci := 2) ((mput_ne n1).trans ht) rfl wu_X2 2 (by decide) fl_X2_9 rfl tyX2 tyX2_ok nmX2 rfl hnm rfl (by rfl) (by rfl) (Nat.le_of_ble_eq_true rfl) dX2_init_9 ?_
  refine V_aload_n C dX2_init_12 (by rfl) ?_
  refine V_bipush C (nI 8) dX2_init_13 (by decide) ?_
  refine V_newI C 8 ac_int (by decide) (by decide) (by decide) (by decide) (by decide) dX2_init_15 (fun q2 h2 => ?_)
  obtain ⟨n2, h2a⟩ := mput_none h2
  obtain ⟨n21, h2b⟩ := mput_none h2a
  refine V_putF C (ci := 2) ((mput_ne n2.symm).trans (mput_eq _ _ _)) rfl wu_X2 3 (by decide) fl_X2_15 rfl tyX2 tyX2_ok nmX2 rfl hnm rfl (by rfl) (by rfl) (Nat.le_of_ble_eq_true rfl) dX2_init_17 ?_
  refine V_aload_n C dX2_init_20 (by rfl) ?_
  refine V_bipush C (nI 8) dX2_init_21 (by decide) ?_
  refine V_newI C 8 ac_int (by decide) (by decide) (by decide) (by decide) (by decide) dX2_init_23 (fun q3 h3 => ?_)
  obtain ⟨n3, h3a⟩ := mput_none h3
  obtain ⟨n32, h3b⟩ := mput_none h3a
  obtain ⟨-, h3c⟩ := mput_none h3b
  obtain ⟨n31, h3d⟩ := mput_none h3c
  refine V_putF C (ci := 2) ((mput_ne n3.symm).trans (mput_eq _ _ _)) rfl wu_X2 4 (by decide) fl_X2_18 rfl tyX2 tyX2_ok nmX2 rfl hnm rfl (by rfl) (by rfl) (Nat.le_of_ble_eq_true rfl) dX2_init_25 ?_
  refine V_aload_n C dX2_init_28 (by rfl) ?_
  refine V_iload_n C dX2_init_29 (by rfl) ?_
  refine V_putF C (ci := 2) (mput_eq _ _ _) rfl wu_X2 0 (by decide) fl_X2_21 rfl tyX2 tyX2_ok nmX2 rfl hnm rfl (by rfl) (by rfl) (Nat.le_of_ble_eq_true rfl) dX2_init_30 ?_
  refine V_aload_n C dX2_init_33 (by rfl) ?_
  refine V_iload_n C dX2_init_34 (by rfl) ?_
  refine V_putF C (ci := 2) (mput_eq _ _ _) rfl wu_X2 1 (by decide) fl_X2_25 rfl tyX2 tyX2_ok nmX2 rfl hnm rfl (by rcases hg with rfl | rfl <;> rfl) (by rcases hg with rfl | rfl <;> rfl) (Nat.le_of_ble_eq_true rfl) dX2_init_35 ?_
  exact V_vretM C hr (by decide) (by decide) dX2_init_38 ⟨rfl, q1, q2, q3, ⟨h1, h2b, h3d⟩, ⟨n21.symm, n31.symm, n32.symm⟩, mput_eq _ _ _, ⟨by simp [mput, n1.symm, n21.symm, n31.symm], by simp [mput, n2, n32.symm], by simp [mput, n3]⟩, fun a g1 g2 g3 g4 => by simp [mput, g1, g2, g3, g4]⟩
set_option maxHeartbeats 4000000 in
set_option maxRecDepth 100000 in
theorem c_SaveInit (l : Launch) (hl : l.stackTraces = false) (base : Nat) (D : va_G) (ct : Nat → ClassId) (sa : Nat → Nat) {M : Mem} {t : Nat} (ht : M t = some (.inr (1, [.int 0, .int 0, .int 0, .null, .null, .int 0]))) :
    CM l yX1_init (.code yX1_init cX1_init 1 none :: WL) (rmK 1 1 8) base D ct sa M [.ref t] (fun v M' => v = none ∧ ∃ q1, M q1 = none ∧ M' t = some (.inr (1, [.int 0, .int 0, .int 0, .ref q1, .null, .int 0])) ∧ M' q1 = some (ar0 ct 8) ∧ ∀ a, a ≠ t → a ≠ q1 → M' a = M a) := by
  refine CM.of hl (by decide) (Nat.le_of_ble_eq_true rfl) ?_
  intro p e s m below meth c C hr hnm
  refine V_aload_n C dX1_init_0 (by rfl) ?_
  refine V_objInit C ml_X1_3 im_oi co_oi dX1_init_1 (by decide) (by decide) ?_
  refine V_aload_n C dX1_init_4 (by rfl) ?_
  refine V_iconst C (0) dX1_init_5 (by decide) ?_
  refine V_put C (ci := 1) ht rfl wu_X1 0 (by decide) fl_X1_9 rfl tyX1 tyX1_ok nmX1 rfl (by rfl) (by rfl) (Nat.le_of_ble_eq_true rfl) dX1_init_6 ?_
  refine V_aload_n C dX1_init_9 (by rfl) ?_
  refine V_iconst C (0) dX1_init_10 (by decide) ?_
  refine V_put C (ci := 1) (mput_eq _ _ _) rfl wu_X1 1 (by decide) fl_X1_15 rfl tyX1 tyX1_ok nmX1 rfl (by rfl) (by rfl) (Nat.le_of_ble_eq_true rfl) dX1_init_11 ?_
  refine V_aload_n C dX1_init_14 (by rfl) ?_
  refine V_iconst C (0) dX1_init_15 (by decide) ?_
  refine V_put C (ci := 1) (mput_eq _ _ _) rfl wu_X1 2 (by decide) fl_X1_18 rfl tyX1 tyX1_ok nmX1 rfl (by rfl) (by rfl) (Nat.le_of_ble_eq_true rfl) dX1_init_16 ?_
  refine V_aload_n C dX1_init_19 (by rfl) ?_
  refine V_bipush C (nI 8) dX1_init_20 (by decide) ?_
  refine V_newI C 8 ac_int (by decide) (by decide) (by decide) (by decide) (by decide) dX1_init_22 (fun q1 h1 => ?_)
  obtain ⟨n1, h1a⟩ := mput_none h1
  obtain ⟨-, h1b⟩ := mput_none h1a
  obtain ⟨-, h1c⟩ := mput_none h1b
  refine V_putF C (ci := 1) ((mput_ne n1.symm).trans (mput_eq _ _ _)) rfl wu_X1 3 (by decide) fl_X1_21 rfl tyX1 tyX1_ok nmX1 rfl hnm rfl (by rfl) (by rfl) (Nat.le_of_ble_eq_true rfl) dX1_init_24 ?_
  refine V_aload_n C dX1_init_27 (by rfl) ?_
  refine V_null C dX1_init_28 ?_
  refine V_put C (ci := 1) (mput_eq _ _ _) rfl wu_X1 4 (by decide) fl_X1_25 rfl tyX1 tyX1_ok nmX1 rfl (by rfl) (by rfl) (Nat.le_of_ble_eq_true rfl) dX1_init_29 ?_
  refine V_aload_n C dX1_init_32 (by rfl) ?_
  refine V_iconst C (0) dX1_init_33 (by decide) ?_
  refine V_put C (ci := 1) (mput_eq _ _ _) rfl wu_X1 5 (by decide) fl_X1_29 rfl tyX1 tyX1_ok nmX1 rfl (by rfl) (by rfl) (Nat.le_of_ble_eq_true rfl) dX1_init_34 ?_
  exact V_vretM C hr (by decide) (by decide) dX1_init_37 ⟨rfl, q1, h1c, mput_eq _ _ _, by simp [mput, n1], fun a g1 g2 => by simp [mput, g1, g2]⟩
set_option maxHeartbeats 4000000 in
set_option maxRecDepth 100000 in
theorem c_RowInit (l : Launch) (hl : l.stackTraces = false) (base : Nat) (D : va_G) (ct : Nat → ClassId) (sa : Nat → Nat) {M : Mem} {t u a9 a10 a11 j : Nat} {nx : Option Nat} {y1 y2 : Value} {f w : Nat → Int32} (hj : j < 8) (ht : M t = some (.inr (0, [.null, .int 0, .int 0, .int 0, .null]))) (h2 : M u = some (.inr (2, [y1, y2, .ref a9, .ref a10, .ref a11]))) (hf : M a9 = some (.inl (ct 0, 8, .inl f))) (hw : M a11 = some (.inl (ct 0, 8, .inl w))) :
    CM l yX0_init (.code yX0_init cX0_init 4 none :: WL) (rmK 1 0 0) base D ct sa M [.ref t, .ref u, .int (nI j), va_rf nx] (fun v M' => v = none ∧ M' t = some (.inr (0, [.ref u, .int (nI j), .int (f j), .int (w j), va_rf nx])) ∧ ∀ a, a ≠ t → M' a = M a) := by
  have n2 : u ≠ t := fun e => by rw [e, ht] at h2; cases h2
  have n9 : a9 ≠ t := fun e => by rw [e, ht] at hf; cases hf
  have n11 : a11 ≠ t := fun e => by rw [e, ht] at hw; cases hw
  cases nx with
  | none =>
    refine CM.of hl (by decide) (Nat.le_of_ble_eq_true rfl) ?_
    intro p e s m below meth c C hr hnm
    refine V_aload_n C dX0_init_0 (by rfl) ?_
    refine V_objInit C ml_X0_1 im_oi co_oi dX0_init_1 (by decide) (by decide) ?_
    refine V_aload_n C dX0_init_4 (by rfl) ?_
    refine V_aload_n C dX0_init_5 (by rfl) ?_
    refine V_putF C (ci := 0) ht rfl wu_X0 0 (by decide) fl_X0_7 rfl tyX0 tyX0_ok nmX0 rfl hnm rfl (by rfl) (by rfl) (Nat.le_of_ble_eq_true rfl) dX0_init_6 ?_
    refine V_aload_n C dX0_init_9 (by rfl) ?_
    refine V_iload_n C dX0_init_10 (by rfl) ?_
    refine V_putF C (ci := 0) (mput_eq _ _ _) rfl wu_X0 1 (by decide) fl_X0_13 rfl tyX0 tyX0_ok nmX0 rfl hnm rfl (by rfl) (by rfl) (Nat.le_of_ble_eq_true rfl) dX0_init_11 ?_
    refine V_aload_n C dX0_init_14 (by rfl) ?_
    refine V_aload_n C dX0_init_15 (by rfl) ?_
    refine V_get C (ci := 2) ((mput_ne n2).trans ((mput_ne n2).trans h2)) rfl wu_X2 2 (by decide) fl_X0_17 rfl (by rfl) dX0_init_16 ?_
    refine V_iload_n C dX0_init_19 (by rfl) ?_
    refine N_iald C ((mput_ne n9).trans ((mput_ne n9).trans hf)) hj (by decide) dX0_init_20 ?_
    refine V_putF C (ci := 0) (mput_eq _ _ _) rfl wu_X0 2 (by decide) fl_X0_23 rfl tyX0 tyX0_ok nmX0 rfl hnm rfl (by rfl) (by rfl) (Nat.le_of_ble_eq_true rfl) dX0_init_21 ?_
    refine V_aload_n C dX0_init_24 (by rfl) ?_
    refine V_aload_n C dX0_init_25 (by rfl) ?_
    refine V_get C (ci := 2) ((mput_ne n2).trans ((mput_ne n2).trans ((mput_ne n2).trans h2))) rfl wu_X2 4 (by decide) fl_X0_26 rfl (by rfl) dX0_init_26 ?_
    refine V_iload_n C dX0_init_29 (by rfl) ?_
    refine N_iald C ((mput_ne n11).trans ((mput_ne n11).trans ((mput_ne n11).trans hw))) hj (by decide) dX0_init_30 ?_
    refine V_putF C (ci := 0) (mput_eq _ _ _) rfl wu_X0 3 (by decide) fl_X0_29 rfl tyX0 tyX0_ok nmX0 rfl hnm rfl (by rfl) (by rfl) (Nat.le_of_ble_eq_true rfl) dX0_init_31 ?_
    refine V_aload_n C dX0_init_34 (by rfl) ?_
    refine V_aload_nN C dX0_init_35 (by rfl) ?_
    refine V_putF C (ci := 0) (mput_eq _ _ _) rfl wu_X0 4 (by decide) fl_X0_32 rfl tyX0 tyX0_ok nmX0 rfl hnm rfl (by rfl) (by rfl) (Nat.le_of_ble_eq_true rfl) dX0_init_36 ?_
    exact V_vretM C hr (by decide) (by decide) dX0_init_39 ⟨rfl, mput_eq _ _ _, fun a g1 => by simp [mput, g1]⟩
  | some nx =>
    refine CM.of hl (by decide) (Nat.le_of_ble_eq_true rfl) ?_
    intro p e s m below meth c C hr hnm
    refine V_aload_n C dX0_init_0 (by rfl) ?_
    refine V_objInit C ml_X0_1 im_oi co_oi dX0_init_1 (by decide) (by decide) ?_
    refine V_aload_n C dX0_init_4 (by rfl) ?_
    refine V_aload_n C dX0_init_5 (by rfl) ?_
    refine V_putF C (ci := 0) ht rfl wu_X0 0 (by decide) fl_X0_7 rfl tyX0 tyX0_ok nmX0 rfl hnm rfl (by rfl) (by rfl) (Nat.le_of_ble_eq_true rfl) dX0_init_6 ?_
    refine V_aload_n C dX0_init_9 (by rfl) ?_
    refine V_iload_n C dX0_init_10 (by rfl) ?_
    refine V_putF C (ci := 0) (mput_eq _ _ _) rfl wu_X0 1 (by decide) fl_X0_13 rfl tyX0 tyX0_ok nmX0 rfl hnm rfl (by rfl) (by rfl) (Nat.le_of_ble_eq_true rfl) dX0_init_11 ?_
    refine V_aload_n C dX0_init_14 (by rfl) ?_
    refine V_aload_n C dX0_init_15 (by rfl) ?_
    refine V_get C (ci := 2) ((mput_ne n2).trans ((mput_ne n2).trans h2)) rfl wu_X2 2 (by decide) fl_X0_17 rfl (by rfl) dX0_init_16 ?_
    refine V_iload_n C dX0_init_19 (by rfl) ?_
    refine N_iald C ((mput_ne n9).trans ((mput_ne n9).trans hf)) hj (by decide) dX0_init_20 ?_
    refine V_putF C (ci := 0) (mput_eq _ _ _) rfl wu_X0 2 (by decide) fl_X0_23 rfl tyX0 tyX0_ok nmX0 rfl hnm rfl (by rfl) (by rfl) (Nat.le_of_ble_eq_true rfl) dX0_init_21 ?_
    refine V_aload_n C dX0_init_24 (by rfl) ?_
    refine V_aload_n C dX0_init_25 (by rfl) ?_
    refine V_get C (ci := 2) ((mput_ne n2).trans ((mput_ne n2).trans ((mput_ne n2).trans h2))) rfl wu_X2 4 (by decide) fl_X0_26 rfl (by rfl) dX0_init_26 ?_
    refine V_iload_n C dX0_init_29 (by rfl) ?_
    refine N_iald C ((mput_ne n11).trans ((mput_ne n11).trans ((mput_ne n11).trans hw))) hj (by decide) dX0_init_30 ?_
    refine V_putF C (ci := 0) (mput_eq _ _ _) rfl wu_X0 3 (by decide) fl_X0_29 rfl tyX0 tyX0_ok nmX0 rfl hnm rfl (by rfl) (by rfl) (Nat.le_of_ble_eq_true rfl) dX0_init_31 ?_
    refine V_aload_n C dX0_init_34 (by rfl) ?_
    refine V_aload_n C dX0_init_35 (by rfl) ?_
    refine V_putF C (ci := 0) (mput_eq _ _ _) rfl wu_X0 4 (by decide) fl_X0_32 rfl tyX0 tyX0_ok nmX0 rfl hnm rfl (by rfl) (by rfl) (Nat.le_of_ble_eq_true rfl) dX0_init_36 ?_
    exact V_vretM C hr (by decide) (by decide) dX0_init_39 ⟨rfl, mput_eq _ _ _, fun a g1 => by simp [mput, g1]⟩
set_option maxHeartbeats 4000000 in
set_option maxRecDepth 100000 in
theorem c_putBack (l : Launch) (hl : l.stackTraces = false) (base : Nat) (D : va_G) (ct : Nat → ClassId) (sa : Nat → Nat) {M : Mem} {t u a9 a10 a11 j : Nat} {y1 y2 y5 : Value} {v w0 : Int32} {f w : Nat → Int32} (hj : j < 8) (ht : M t = some (.inr (0, [.ref u, .int (nI j), .int v, .int w0, y5]))) (h2 : M u = some (.inr (2, [y1, y2, .ref a9, .ref a10, .ref a11]))) (hf : M a9 = some (.inl (ct 0, 8, .inl f))) (hw : M a11 = some (.inl (ct 0, 8, .inl w))) (na : a9 ≠ a11) :
    CT l yX0_putBack (.code yX0_putBack cX0_putBack 1 none :: WL) (rmK 1 0 0) base D ct sa M [.ref t] (fun v9 M' => v9 = none ∧ M' = mput (mput M a9 (.inl (ct 0, 8, .inl (upd f j v)))) a11 (.inl (ct 0, 8, .inl (upd w j w0)))) noX := by
  have n29 : u ≠ a9 := fun e => by rw [e, hf] at h2; cases h2
  have n9 : t ≠ a9 := fun e => by rw [e, hf] at ht; cases ht
  refine CT.of hl (by decide) (Nat.le_of_ble_eq_true rfl) ?_
  intro p e s m below meth c C hr hx
  refine V_aload_n C dX0_putBack_0 (by rfl) ?_
  refine V_get C (ci := 0) ht rfl wu_X0 0 (by decide) fl_X0_7 rfl (by rfl) dX0_putBack_1 ?_
  refine V_get C (ci := 2) h2 rfl wu_X2 2 (by decide) fl_X0_17 rfl (by rfl) dX0_putBack_4 ?_
  refine V_aload_n C dX0_putBack_7 (by rfl) ?_
  refine V_get C (ci := 0) ht rfl wu_X0 1 (by decide) fl_X0_13 rfl (by rfl) dX0_putBack_8 ?_
  refine V_aload_n C dX0_putBack_11 (by rfl) ?_
  refine V_get C (ci := 0) ht rfl wu_X0 2 (by decide) fl_X0_23 rfl (by rfl) dX0_putBack_12 ?_
  refine N_iast C hf hj (by decide) dX0_putBack_15 ?_
  refine V_aload_n C dX0_putBack_16 (by rfl) ?_
  refine V_get C (ci := 0) ((mput_ne n9).trans ht) rfl wu_X0 0 (by decide) fl_X0_7 rfl (by rfl) dX0_putBack_17 ?_
  refine V_get C (ci := 2) ((mput_ne n29).trans h2) rfl wu_X2 4 (by decide) fl_X0_26 rfl (by rfl) dX0_putBack_20 ?_
  refine V_aload_n C dX0_putBack_23 (by rfl) ?_
  refine V_get C (ci := 0) ((mput_ne n9).trans ht) rfl wu_X0 1 (by decide) fl_X0_13 rfl (by rfl) dX0_putBack_24 ?_
  refine V_aload_n C dX0_putBack_27 (by rfl) ?_
  refine V_get C (ci := 0) ((mput_ne n9).trans ht) rfl wu_X0 3 (by decide) fl_X0_29 rfl (by rfl) dX0_putBack_28 ?_
  refine N_iast C ((mput_ne na.symm).trans hw) hj (by decide) dX0_putBack_31 ?_
  exact V_vret C hr (by decide) (by decide) dX0_putBack_32 ⟨rfl, rfl⟩
end
section
/-! object -/
theorem seg {B : Nat} {σ : Sg} (hI : Inv B σ) : ∀ k, k ≤ gSv σ → ∀ r, r < rbx σ k → ∃ j, j < k ∧ rbx σ j ≤ r ∧ r < rbx σ (j + 1) := by
  intro k
  induction k with
  | zero =>
    intro _ r hr
    have : rbx σ 0 = 0 := by
      unfold rbx
      split
      · exact hI.2.2.2.1.2.2.2.2.2 (by assumption)
      · exact hI.2.2.2.1.2.2.2.2.1 (by omega)
    omega
  | succ k ih =>
    intro hk r hr
    rcases Nat.lt_or_ge r (rbx σ k) with h | h
    · obtain ⟨j, h1, h2⟩ := ih (by omega) r h
      exact ⟨j, by omega, h2⟩
    · exact ⟨k, by omega, h, hr⟩
theorem segR {B : Nat} {σ : Sg} (hI : Inv B σ) {r : Nat} (hr : r < gRows σ) : ∃ j, j < gSv σ ∧ rbx σ j ≤ r ∧ r < rbx σ (j + 1) :=
  seg hI (gSv σ) (Nat.le_refl _) r (by unfold rbx; rw [if_neg (Nat.lt_irrefl _)]; exact hr)
theorem ownr_none {B : Nat} {σ : Sg} (hI : Inv B σ) {c : Nat} (hc : gMade σ ≤ c / 8) : ∀ k, k ≤ gSv σ → ownr σ k c = 0 := by
  intro k
  induction k with
  | zero => intro _; rfl
  | succ k ih =>
    intro hk
    have hf : hasR σ (rbx σ k) (rbx σ (k + 1)) c = false := by
      rw [Bool.eq_false_iff]
      intro h
      obtain ⟨r, h1, h2, h3⟩ := hasR_iff.mp h
      have q1 := (hI.2.2.2.2.2 k r (by omega) h1 h2).1
      have q2 := hI.2.2.1.2.2.1 k (by omega)
      rw [h3] at q1
      omega
    simp only [ownr, hf]
    exact ih (by omega)
/-- every cell of the picture is there -/
theorem RepC.dom {ct : Nat → ClassId} {A : Nat → Nat → Nat} {G ob : Nat → Nat} {σ : Sg} {M : Mem} {x B : Nat} (hC : RepC ct A G ob σ M x) (hI : Inv B σ) : M x ≠ none ∧ (∀ k, 1 ≤ k → k < 5 → M (A k 0) ≠ none) ∧ (∀ k, k < 30 → M (A 5 k) ≠ none) ∧ (∀ k, k < 16 → M (A 6 k) ≠ none ∧ M (A 7 k) ≠ none) ∧ (∀ o, gThere σ o = 1 → M (A 8 o) ≠ none ∧ M (A 9 o) ≠ none ∧ M (A 10 o) ≠ none ∧ M (A 11 o) ≠ none) ∧ (∀ r, r < gRows σ → M (A 12 r) ≠ none) := by
  obtain ⟨hx0, hG, hO, ⟨⟨tf, a1, a2⟩, ⟨s9, a3, a4⟩, ⟨pf, a5, -⟩, ⟨uf, a6, a7⟩, a8⟩, hT, hS, hR⟩ := hC
  have nn : ∀ {a : Nat} {e : va_E}, M a = some e → M a ≠ none := fun h => by rw [h]; exact Option.some_ne_none _
  refine ⟨nn hx0, fun k h1 h2 => ?_, fun k hk => ?_, fun k hk => ?_, fun o ho => ?_, fun r hr => ?_⟩
  · rcases (show k = 1 ∨ k = 2 ∨ k = 3 ∨ k = 4 by omega) with rfl | rfl | rfl | rfl
    · exact nn a1
    · exact nn a3
    · exact nn a5
    · exact nn a6
  · obtain ⟨f, h, -⟩ := a8 k hk; exact nn h
  · rcases Nat.lt_or_ge k (gSv σ) with h | h
    · obtain ⟨g1, f, g2, -⟩ := (hS k hk).1 h; exact ⟨nn g1, nn g2⟩
    · obtain ⟨_, _, _, _, g1, g2⟩ := (hS k hk).2 h; exact ⟨nn g1, nn g2⟩
  · obtain ⟨h1, ⟨_, h2, -⟩, ⟨_, h3, -⟩, ⟨_, h4, -⟩⟩ := hT o ho
    exact ⟨nn h1, nn h2, nn h3, nn h4⟩
  · obtain ⟨k, h1, h2, h3⟩ := segR hI hr
    exact nn (hR k r h1 h2 h3)
def sObj (σ : Sg) (g : Int32) : Sg := sf (sf (sf (sf σ 2 (va_up (σ.1 2) (gMade σ) 1)) 3 (va_up (σ.1 3) (gMade σ) (if g = 0 then 0 else 1))) 1 (sk (gAlive σ + 1))) 0 (sk (gMade σ + 1))
set_option maxHeartbeats 4000000 in
theorem objectC {ct : Nat → ClassId} {A : Nat → Nat → Nat} {G ob : Nat → Nat} {σ : Sg} {M : Mem} {x B : Nat} (hC : RepC ct A G ob σ M x) (hI : Inv B σ) {g : Int32} (hg : g = 0 ∨ g = 1) {t q1 q2 q3 : Nat} (ft : M t = none) (f1 : M q1 = none) (f2 : M q2 = none) (f3 : M q3 = none) (n1 : t ≠ q1) (n2 : t ≠ q2) (n3 : t ≠ q3) (n12 : q1 ≠ q2) (n13 : q1 ≠ q3) (n23 : q2 ≠ q3) {tf : Nat → Option Nat} (htf2 : ∀ j, j < gAlive σ → tf j = some (A 8 (ob j))) {M' : Mem} (hold : ∀ a, M a ≠ none → a ≠ x → a ≠ A 1 0 → M' a = M a)
    (mx : M' x = some (.inr (3, [.ref (A 1 0), .int (nI (gAlive σ + 1)), .int (nI (gMade σ + 1)), .ref (A 2 0), .int (nI (gSv σ)), .int (nI (gLast σ)), .int (nI (gDeep σ)), .ref (A 3 0), .ref (A 4 0), .int (nI (gSt σ))]))) (mT : M' (A 1 0) = some (.inl (ct 4, 200, .inr (.inr (.inr (.inr (va_up tf (gAlive σ) (some t)))))))) (mt : M' t = some (.inr (2, [.int (nI (gMade σ)), .int g, .ref q1, .ref q2, .ref q3]))) (m1 : M' q1 = some (ar0 ct 8)) (m2 : M' q2 = some (ar0 ct 8)) (m3 : M' q3 = some (ar0 ct 8)) : HoldC ct G M (sObj σ g) M' x := by
  obtain ⟨D1, D2, D3, D4, D5, D6⟩ := RepC.dom hC hI
  obtain ⟨hx0, hG, hO, ⟨⟨tf0, a1, a2⟩, ⟨s9, a3, a4⟩, a5, ⟨uf, a6, a7⟩, a8⟩, hT, hS, hR⟩ := hC
  obtain ⟨A', hA8, hA9, hA10, hA11, hAo⟩ : ∃ A' : Nat → Nat → Nat, A' 8 (gMade σ) = t ∧ A' 9 (gMade σ) = q1 ∧ A' 10 (gMade σ) = q2 ∧ A' 11 (gMade σ) = q3 ∧ ∀ r i, (r < 8 ∨ 11 < r ∨ i ≠ gMade σ) → A' r i = A r i := by
    refine ⟨fun r i => if i = gMade σ then (if r = 8 then t else if r = 9 then q1 else if r = 10 then q2 else if r = 11 then q3 else A r i) else A r i, by simp, by simp, by simp, by simp, fun r i h => ?_⟩
    show (if i = gMade σ then (if r = 8 then t else if r = 9 then q1 else if r = 10 then q2 else if r = 11 then q3 else A r i) else A r i) = A r i
    split
    · rw [if_neg (by omega), if_neg (by omega), if_neg (by omega), if_neg (by omega)]
    · rfl
  obtain ⟨G', hGt, hG1, hG2, hG3, hGo⟩ : ∃ G' : Nat → Nat, G' t = 16 * gMade σ + 8 ∧ G' q1 = 16 * gMade σ + 9 ∧ G' q2 = 16 * gMade σ + 10 ∧ G' q3 = 16 * gMade σ + 11 ∧ ∀ a, a ≠ t → a ≠ q1 → a ≠ q2 → a ≠ q3 → G' a = G a := by
    refine ⟨fun a => if a = t then 16 * gMade σ + 8 else if a = q1 then 16 * gMade σ + 9 else if a = q2 then 16 * gMade σ + 10 else if a = q3 then 16 * gMade σ + 11 else G a, by simp, by simp [n1.symm], by simp [n2.symm, n12.symm], by simp [n3.symm, n13.symm, n23.symm], fun a h1 h2 h3 h4 => by simp [h1, h2, h3, h4]⟩
  have hGd : ∀ a, M a ≠ none → G' a = G a := fun a h => hGo a (fun e => h (by rw [e]; exact ft)) (fun e => h (by rw [e]; exact f1)) (fun e => h (by rw [e]; exact f2)) (fun e => h (by rw [e]; exact f3))
  have hmn : ∀ o, gThere σ o = 1 → o ≠ gMade σ := fun o h e => by have := hI.2.1.2.2.1 o h; omega
  have e0 : gMade (sObj σ g) = gMade σ + 1 := rfl
  have ea : gAlive (sObj σ g) = gAlive σ + 1 := rfl
  have et : ∀ o, gThere (sObj σ g) o = va_up (σ.1 2) (gMade σ) 1 o := fun _ => rfl
  have eg : ∀ o, gGlob (sObj σ g) o = va_up (σ.1 3) (gMade σ) (if g = 0 then 0 else 1) o := fun _ => rfl
  have ev : gSv (sObj σ g) = gSv σ := rfl
  have rb : ∀ k, rbx (sObj σ g) k = rbx σ k := fun _ => rfl
  have ow : ∀ k c, ownr (sObj σ g) k c = ownr σ k c := fun k c => ownr_congr k c (fun _ _ => rfl) (fun _ _ _ _ _ => rfl) (fun _ _ => rfl)
  have told : ∀ o, gThere (sObj σ g) o = 1 → o ≠ gMade σ → gThere σ o = 1 := fun o h hn => by rw [et, va_up_ne _ _ hn] at h; exact h
  have tneqT : ∀ a, G a ≠ 1 → a ≠ A 1 0 := fun a h e => h (by rw [e]; exact hG.2.1 1 (by decide) (by decide))
  have tneqx : ∀ a, G a ≠ 13 → a ≠ x := fun a h e => h (by rw [e]; exact hG.1)
  have mv : ∀ a, M a ≠ none → G a ≠ 1 → G a ≠ 13 → M' a = M a := fun a h1 h2 h3 => hold a h1 (tneqx a h3) (tneqT a h2)
  refine ⟨A', G', va_up ob (gAlive σ) (gMade σ), ⟨?_, ?_, ?_, ⟨⟨va_up tf (gAlive σ) (some t), ?_, fun j hj => ?_⟩, ⟨s9, ?_, fun k hk => ?_⟩, ?_, ⟨uf, ?_, fun k hk => ?_⟩, fun k hk => ?_⟩, fun o ho => ?_, fun k hk => ?_, fun k r h1 h2 h3 => ?_⟩, ?_, ?_⟩
  · rw [mx]; unfold xE; rw [hAo 1 0 (by omega), hAo 2 0 (by omega), hAo 3 0 (by omega), hAo 4 0 (by omega)]; rfl
  · refine ⟨by rw [hGd x D1]; exact hG.1, fun k h1 h2 => ?_, fun k hk => ?_, fun k hk => ?_, fun o ho => ?_, fun r hr => ?_⟩
    · rw [hAo k 0 (by omega), hGd _ (D2 k h1 h2)]; exact hG.2.1 k h1 h2
    · rw [hAo 5 k (by omega), hGd _ (D3 k hk)]; exact hG.2.2.1 k hk
    · rw [hAo 6 k (by omega), hAo 7 k (by omega), hGd _ (D4 k hk).1, hGd _ (D4 k hk).2]; exact hG.2.2.2.1 k hk
    · by_cases e : o = gMade σ
      · subst e; rw [hA8, hA9, hA10, hA11]; exact ⟨hGt, hG1, hG2, hG3⟩
      · have ho' := told o ho e
        obtain ⟨d1, d2, d3, d4⟩ := D5 o ho'
        rw [hAo 8 o (by omega), hAo 9 o (by omega), hAo 10 o (by omega), hAo 11 o (by omega), hGd _ d1, hGd _ d2, hGd _ d3, hGd _ d4]
        exact hG.2.2.2.2.1 o ho'
    · rw [hAo 12 r (by omega), hGd _ (D6 r hr)]; exact hG.2.2.2.2.2 r hr
  · refine ⟨fun j hj => ?_, fun i j hij hj => ?_, fun o h1 h2 => ?_⟩
    · rw [e0, et]
      by_cases e : j = gAlive σ
      · subst e; rw [va_up_self, va_up_self]; exact ⟨Nat.lt_succ_self _, rfl⟩
      · rw [va_up_ne _ _ e]
        have := hO.1 j (by rw [ea] at hj; omega)
        rw [va_up_ne _ _ (hmn _ this.2)]
        exact ⟨by omega, this.2⟩
    · rw [ea] at hj
      rw [va_up_ne _ _ (show i ≠ gAlive σ by omega)]
      by_cases e : j = gAlive σ
      · subst e; rw [va_up_self]; exact (hO.1 i hij).1
      · rw [va_up_ne _ _ e]; exact hO.2.1 i j hij (by omega)
    · by_cases e : o = gMade σ
      · subst e; exact ⟨gAlive σ, by rw [ea]; omega, va_up_self _ _ _⟩
      · obtain ⟨j, hj, rfl⟩ := hO.2.2 o (by rw [e0] at h1; omega) (told o h2 e)
        exact ⟨j, by rw [ea]; omega, va_up_ne _ _ (by omega)⟩
  · rw [hAo 1 0 (by omega)]; exact mT
  · by_cases e : j = gAlive σ
    · subst e; rw [va_up_self, va_up_self, hA8]
    · rw [va_up_ne _ _ e, va_up_ne _ _ e, htf2 j (by rw [ea] at hj; omega), hAo 8 _ (by have := hO.1 j (by rw [ea] at hj; omega); have := hmn _ this.2; omega)]
  · rw [hAo 2 0 (by omega), mv _ (D2 2 (by decide) (by decide)) (by rw [hG.2.1 2 (by decide) (by decide)]; decide) (by rw [hG.2.1 2 (by decide) (by decide)]; decide)]; exact a3
  · rw [hAo 6 k (by omega)]; exact a4 k hk
  · rw [hAo 3 0 (by omega)]; exact a5.same (mv _ (D2 3 (by decide) (by decide)) (by rw [hG.2.1 3 (by decide) (by decide)]; decide) (by rw [hG.2.1 3 (by decide) (by decide)]; decide))
  · rw [hAo 4 0 (by omega), mv _ (D2 4 (by decide) (by decide)) (by rw [hG.2.1 4 (by decide) (by decide)]; decide) (by rw [hG.2.1 4 (by decide) (by decide)]; decide)]; exact a6
  · rw [hAo 5 k (by omega)]; exact a7 k hk
  · rw [hAo 5 k (by omega), mv _ (D3 k hk) (by rw [hG.2.2.1 k hk]; omega) (by rw [hG.2.2.1 k hk]; omega)]; exact a8 k hk
  · by_cases e : o = gMade σ
    · subst e
      refine ⟨?_, ⟨_, by rw [hA9]; exact m1, fun i hi => ?_⟩, ⟨_, by rw [hA10]; exact m2, fun i hi => ?_⟩, ⟨_, by rw [hA11]; exact m3, fun i hi => ?_⟩⟩
      · rw [hA8, mt]; unfold tE; rw [hA9, hA10, hA11, eg, va_up_self]
        rcases hg with rfl | rfl <;> rfl
      · exact (hI.2.1.2.2.2 _ (by omega)).1.symm
      · exact (hI.2.1.2.2.2 _ (by omega)).2.symm
      · show (0 : Int32) = nI (ownr (sObj σ g) (gSv (sObj σ g)) (8 * gMade σ + i))
        rw [ow, ev, ownr_none hI (by omega) _ (Nat.le_refl _)]; rfl
    · have ho' := told o ho e
      obtain ⟨d1, d2, d3, d4⟩ := D5 o ho'
      obtain ⟨g1, g2, g3, g4⟩ := hG.2.2.2.2.1 o ho'
      obtain ⟨h1, h2, h3, h4⟩ := hT o ho'
      have b8 := hAo 8 o (by omega); have b9 := hAo 9 o (by omega); have b10 := hAo 10 o (by omega); have b11 := hAo 11 o (by omega)
      refine ⟨?_, ?_, ?_, ?_⟩
      · rw [b8, mv _ d1 (by rw [g1]; omega) (by rw [g1]; omega), h1]; unfold tE; rw [b9, b10, b11, eg, va_up_ne _ _ e]
      · rw [b9]; exact h2.same (mv _ d2 (by rw [g2]; omega) (by rw [g2]; omega))
      · rw [b10]; exact h3.same (mv _ d3 (by rw [g3]; omega) (by rw [g3]; omega))
      · rw [b11]; exact (h4.same (mv _ d4 (by rw [g4]; omega) (by rw [g4]; omega))).to (fun i _ => by rw [ow, ev])
  · obtain ⟨h1, h2⟩ := hS k hk
    obtain ⟨d1, d2⟩ := D4 k hk
    obtain ⟨g1, g2⟩ := hG.2.2.2.1 k hk
    have m6 := mv _ d1 (by rw [g1]; omega) (by rw [g1]; omega)
    have m7 := mv _ d2 (by rw [g2]; omega) (by rw [g2]; omega)
    have b6 := hAo 6 k (by omega); have b7 := hAo 7 k (by omega)
    have br : ∀ lo hi, rowOf A' lo hi = rowOf A lo hi := fun lo hi => by unfold rowOf; rw [hAo 12 _ (by omega)]
    refine ⟨fun h => ?_, fun h => ?_⟩
    · obtain ⟨p1, p2⟩ := h1 h
      refine ⟨?_, ?_⟩
      · rw [b6, m6, p1]; unfold sE; rw [b7, br]; rfl
      · rw [b7]; exact p2.same m7
    · obtain ⟨n, f, p, g9, p1, p2⟩ := h2 h
      refine ⟨n, f, p, g9, ?_, ?_⟩
      · rw [b6, m6, p1]; unfold sE; rw [b7]
      · rw [b7, m7]; exact p2
  · have hr := Nat.lt_of_lt_of_le (show r < rbx σ (k + 1) from h3) (rbx_le hI _)
    have := hR k r h1 h2 h3
    have q := hI.2.2.2.2.2 k r h1 h2 h3
    unfold RepR at this ⊢
    rw [hAo 12 r (by omega), mv _ (D6 r hr) (by rw [hG.2.2.2.2.2 r hr]; omega) (by rw [hG.2.2.2.2.2 r hr]; omega), this]
    have br : ∀ lo hi, rowOf A' lo hi = rowOf A lo hi := fun lo hi => by unfold rowOf; rw [hAo 12 _ (by omega)]
    rw [br, ow]
    have : A' 8 (gPl (sObj σ g) r / 8) = A 8 (gPl σ r / 8) := hAo 8 _ (Or.inr (Or.inr (hmn _ q.2.1)))
    rw [this]; rfl
  · intro a h
    by_cases hM : M a = none
    · exact Or.inr hM
    · rw [hGd a hM] at h; exact Or.inl h
  · intro a h1 h2
    exact mv a h2 (by rw [h1]; decide) (by rw [h1]; decide)
set_option maxHeartbeats 4000000 in
set_option maxRecDepth 100000 in
theorem c_object (l : Launch) (hl : l.stackTraces = false) (base : Nat) (D : va_G) (ct : Nat → ClassId) (sa : Nat → Nat) {A : Nat → Nat → Nat} {G ob : Nat → Nat} {σ : Sg} {M : Mem} {x B : Nat} (hC : RepC ct A G ob σ M x) (hI : Inv B σ) (hB : B ≤ 600) (g : Int32) (hg : g = 0 ∨ g = 1) :
    CT l yX3_object (.code yX3_object cX3_object 3 (some .int) :: WL) (rmK 7 4 30) base D ct sa M [.ref x, .int g] (PostC ct G M x (oObject σ g)) (PxC nmU M (oObject σ g)) := by
  refine CT.of hl (by decide) (Nat.le_of_ble_eq_true rfl) ?_
  intro p e s m below meth c C hr hx
  obtain ⟨hx0, hG, hO, hA, hT, hS, hR⟩ := id hC
  obtain ⟨tf, htf, htf2⟩ := hA.1
  obtain ⟨⟨i1, i2, i3, i4, i5, i6, i7, i8⟩, -⟩ := id hI
  refine V_aload_n C dX3_object_0 (by rfl) ?_
  refine V_get C (ci := 3) hx0 rfl wu_X3 1 (by decide) fl_X3_15 rfl (by rfl) dX3_object_1 ?_
  refine V_sipush C (nI 200) dX3_object_4 (by decide) ?_
  refine V_icmp_lt C 20 dX3_object_7 (by decide) (fun h7 => ?_) (fun h7 => ?_)
  · have hlt : gAlive σ < 200 := (nI_ltI (by omega) (by decide)).mp h7
    refine V_new C (ci := 2) (fs := [.int 0, .int 0, .null, .null, .null]) rfl wu_X2 tyX2 tyX2_ok cl_X3_9 in_X2 ini_X2 (fun j hj => by rcases (show j = 0 ∨ j = 1 ∨ j = 2 ∨ j = 3 ∨ j = 4 by omega) with rfl | rfl | rfl | rfl | rfl <;> rfl) (by decide) (by decide) dX3_object_20 (fun t ft => ?_)
    have nx : x ≠ t := some_ne hx0 ft
    have nT : A 1 0 ≠ t := some_ne htf ft
    refine V_dup C dX3_object_23 rfl ?_
    refine V_aload_n C dX3_object_24 (by rfl) ?_
    refine V_get C (ci := 3) ((mput_ne nx).trans hx0) rfl wu_X3 2 (by decide) fl_X3_19 rfl (by rfl) dX3_object_25 ?_
    refine V_iload_n C dX3_object_28 (by rfl) ?_
    refine V_callI C (As := [.int (nI (gMade σ)), .int g]) (c_ThingInit l hl base D ct sa (nI (gMade σ)) g hg (mput_eq _ _ _)) w_X3_57 rfl (by decide) (Nat.le_of_ble_eq_true rfl) ⟨by decide, by decide⟩ dX3_object_29 (fun v M2 hv => ?_)
    obtain ⟨rfl, q1, q2, q3, ⟨f1, f2, f3⟩, ⟨n12, n13, n23⟩, mt, ⟨m1, m2, m3⟩, mo⟩ := hv
    obtain ⟨n1, f1⟩ := mput_none f1
    obtain ⟨n2, f2⟩ := mput_none f2
    obtain ⟨n3, f3⟩ := mput_none f3
    have hold : ∀ a, M a ≠ none → M2 a = M a := fun a h => by
      have e1 : a ≠ t := fun e => h (by rw [e]; exact ft)
      rw [mo a e1 (fun e => h (by rw [e]; exact f1)) (fun e => h (by rw [e]; exact f2)) (fun e => h (by rw [e]; exact f3)), mput_ne e1]
    have hx2 : M2 x = some (xE A σ) := (hold x (by rw [hx0]; exact Option.some_ne_none _)).trans hx0
    have ht2 : M2 (A 1 0) = some (.inl (ct 4, 200, .inr (.inr (.inr (.inr tf))))) := (hold _ (by rw [htf]; exact Option.some_ne_none _)).trans htf
    have nxT : x ≠ A 1 0 := ne_tag hG.1 (hG.2.1 1 (by decide) (by decide)) (by decide)
    refine VV.eqv (st' := [.ref t]) rfl rfl ?_
    refine V_astore_n C dX3_object_32 (by decide) ?_
    refine V_aload_n C dX3_object_33 (by rfl) ?_
    refine V_get C (ci := 3) hx2 rfl wu_X3 0 (by decide) fl_X3_11 rfl (by rfl) dX3_object_34 ?_
    refine V_aload_n C dX3_object_37 (by rfl) ?_
    refine V_get C (ci := 3) hx2 rfl wu_X3 1 (by decide) fl_X3_15 rfl (by rfl) dX3_object_38 ?_
    refine V_aload_n C dX3_object_41 (by rfl) ?_
    refine N_aastT C mt ht2 hlt (by decide) dX3_object_42 ?_
    refine V_aload_n C dX3_object_43 (by rfl) ?_
    refine V_dup C dX3_object_44 rfl ?_
    refine V_get C (ci := 3) ((mput_ne nxT).trans hx2) rfl wu_X3 1 (by decide) fl_X3_15 rfl (by rfl) dX3_object_45 ?_
    refine V_iconst C (1) dX3_object_48 (by decide) ?_
    refine V_iadd C dX3_object_49 ?_
    refine V_top (nI_1 _) ?_
    refine V_put C (ci := 3) ((mput_ne nxT).trans hx2) rfl wu_X3 1 (by decide) fl_X3_15 rfl tyX3 tyX3_ok nmX3 rfl (by rfl) (by rfl) (Nat.le_of_ble_eq_true rfl) dX3_object_50 ?_
    refine V_aload_n C dX3_object_53 (by rfl) ?_
    refine V_dup C dX3_object_54 rfl ?_
    refine V_get C (ci := 3) (mput_eq _ _ _) rfl wu_X3 2 (by decide) fl_X3_19 rfl (by rfl) dX3_object_55 ?_
    refine V_iconst C (1) dX3_object_58 (by decide) ?_
    refine V_iadd C dX3_object_59 ?_
    refine V_top (nI_1 _) ?_
    refine V_put C (ci := 3) (mput_eq _ _ _) rfl wu_X3 2 (by decide) fl_X3_19 rfl tyX3 tyX3_ok nmX3 rfl (by rfl) (by rfl) (Nat.le_of_ble_eq_true rfl) dX3_object_60 ?_
    refine V_aload_n C dX3_object_63 (by rfl) ?_
    refine V_get C (ci := 2) ((mput_ne nx.symm).trans ((mput_ne nx.symm).trans ((mput_ne nT.symm).trans mt))) rfl wu_X2 0 (by decide) fl_X3_60 rfl (by rfl) dX3_object_64 ?_
    exact V_iret C hr (by decide) (by decide) dX3_object_67 (by
      rw [show oObject σ g = (0, nI (gMade σ), sObj σ g) by unfold oObject; rw [if_neg (by omega)]; rfl]
      refine ⟨rfl, rfl, ?_⟩
      refine objectC hC hI hg ft f1 f2 f3 n1.symm n2.symm n3.symm n12 n13 n23 htf2 (fun a h1 h2 h3 => ?_) (mput_eq _ _ _) ?_ ?_ ?_ ?_ ?_
      · rw [mput_ne h2, mput_ne h2, mput_ne h3]; exact hold a h1
      · rw [mput_ne nxT.symm, mput_ne nxT.symm, mput_eq]
      · rw [mput_ne nx.symm, mput_ne nx.symm, mput_ne nT.symm]; exact mt
      · rw [mput_ne (some_ne hx0 f1).symm, mput_ne (some_ne hx0 f1).symm, mput_ne (some_ne htf f1).symm]; exact m1
      · rw [mput_ne (some_ne hx0 f2).symm, mput_ne (some_ne hx0 f2).symm, mput_ne (some_ne htf f2).symm]; exact m2
      · rw [mput_ne (some_ne hx0 f3).symm, mput_ne (some_ne hx0 f3).symm, mput_ne (some_ne htf f3).symm]; exact m3)
  · exact V_throw C hx rfl (E := "java/lang/UnsupportedOperationException") (by decide +kernel) cl_X3_50 ini_EU (List.mem_of_getElem? (i := 0) rfl) ea_U eg_U dX3_object_10 dX3_object_13 dX3_object_14 dX3_object_16 dX3_object_19 (by decide) (by decide) (by decide) (by decide) (by decide) (by decide) (by rw [show oObject σ g = (1, 0, σ) by unfold oObject; rw [if_pos (by rcases Nat.lt_or_ge (gAlive σ) 200 with h | h; exact absurd ((nI_ltI (by omega) (by decide)).mpr h) h7; omega)]]; exact ⟨Nat.zero_lt_succ _, rfl, rfl⟩)
end
section
/-! what holds of σ stays, call by call -/
theorem Inv.mono {B B' : Nat} {σ : Sg} (h : Inv B σ) (hB : B ≤ B') : Inv B' σ := by
  obtain ⟨⟨i1, i2, i3, i4⟩, h2⟩ := h
  exact ⟨⟨Nat.le_trans i1 hB, Nat.le_trans i2 hB, Nat.le_trans i3 hB, i4⟩, h2⟩
theorem inv_state {B : Nat} {σ : Sg} (h : Inv B σ) {j : Nat} {v : Int32} (hv : isV σ v = true) : Inv (B + 1) (sw σ 2 (va_up (σ.2 2) j v)) := by
  obtain ⟨i1, i2, i3, i4, ⟨⟨v8, v9⟩, i5⟩, i6⟩ := h.mono (Nat.le_succ B)
  refine ⟨i1, i2, i3, i4, ⟨⟨?_, ?_⟩, i5⟩, i6⟩
  · show isV σ (va_up (σ.2 2) j v 8) = true
    unfold va_up; split
    · exact hv
    · exact v8
  · show isV σ (va_up (σ.2 2) j v 9) = true
    unfold va_up; split
    · exact hv
    · exact v9
theorem inv_bytes {B : Nat} {σ : Sg} (h : Inv B σ) {o j : Nat} (ho : o < gMade σ) (hj : j < 8) {v : Int32} : Inv (B + 1) (sw σ 1 (va_up (σ.2 1) (8 * o + j) v)) := by
  obtain ⟨i1, ⟨t1, t2, t3, t4⟩, i3, i4, i5, i6⟩ := h.mono (Nat.le_succ B)
  refine ⟨i1, ⟨t1, t2, t3, fun q hq => ⟨(t4 q hq).1, ?_⟩⟩, i3, i4, i5, i6⟩
  show va_up (σ.2 1) (8 * o + j) v q = 0
  have hq' : 8 * gMade σ ≤ q := hq
  rw [va_up_ne _ _ (by omega)]
  exact (t4 q hq).2
theorem inv_push {B : Nat} {σ : Sg} (h : Inv B σ) (hlt : gSt σ < 30) {g : Nat → Int32} : Inv (B + 1) (sf (sw σ 5 g) 13 (sk (gSt σ + 1))) := by
  obtain ⟨⟨a1, a2, a3, a4, a5, a6, a7, a8⟩, i2, i3, ⟨r1, r2, r3, r4, r5, r6⟩, i5, i6⟩ := h.mono (Nat.le_succ B)
  exact ⟨⟨a1, a2, a3, a4, a5, hlt, a7, a8⟩, i2, i3, ⟨r1, r2, fun k hk => Nat.le_succ_of_le (r3 k hk), r4, r5, r6⟩, i5, i6⟩
theorem inv_pop {B : Nat} {σ : Sg} (h : Inv B σ) (hp : 0 < ownS σ) {f : Nat → Int32} {n : Nat} : Inv (B + 1) (sw (sf σ 13 (sk (gSt σ - 1))) 2 (va_cpy f (σ.2 2) n 0 8)) := by
  obtain ⟨⟨a1, a2, a3, a4, a5, a6, a7, a8⟩, i2, i3, ⟨r1, r2, r3, r4, r5, r6⟩, ⟨⟨v8, v9⟩, i5⟩, i6⟩ := h.mono (Nat.le_succ B)
  refine ⟨⟨a1, a2, a3, a4, a5, Nat.le_trans (Nat.sub_le _ _) a6, a7, a8⟩, i2, i3, ⟨r1, r2, fun k hk => ?_, r4, r5, r6⟩, ⟨⟨?_, ?_⟩, i5⟩, i6⟩
  · have hk' : k < gSv σ := hk
    show gSb σ k ≤ gSt σ - 1
    have h1 := r4 k (gSv σ - 1) (by omega) (by omega)
    unfold ownS at hp
    rw [if_neg (by omega)] at hp
    omega
  · show isV σ (va_cpy f (σ.2 2) n 0 8 8) = true
    rw [pk_cpy_out (by omega)]; exact v8
  · show isV σ (va_cpy f (σ.2 2) n 0 8 9) = true
    rw [pk_cpy_out (by omega)]; exact v9
theorem isV_of {σ σ' : Sg} (h : ∀ o, o < gMade σ → gThere σ o = 1 → o < gMade σ' ∧ gThere σ' o = 1) {v : Int32} (hv : isV σ v = true) : isV σ' v = true := by
  simp only [isV, isO, Bool.or_eq_true, decide_eq_true_eq] at hv ⊢
  rcases hv with hv | ⟨h1, h2, h3⟩
  · exact Or.inl hv
  · exact Or.inr ⟨h1, h _ h2 h3⟩
theorem inv_object {B : Nat} {σ : Sg} (h : Inv B σ) (hlt : gAlive σ < 200) (g : Int32) : Inv (B + 1) (sObj σ g) := by
  obtain ⟨⟨a1, a2, a3, a4, a5, a6, a7, a8⟩, ⟨t1, t2, t3, t4⟩, ⟨n1, n2, n3, n4⟩, i4, ⟨⟨v8, v9⟩, i5⟩, i6⟩ := h
  have et : ∀ o, gThere (sObj σ g) o = va_up (σ.1 2) (gMade σ) 1 o := fun _ => rfl
  have eg : ∀ o, gGlob (sObj σ g) o = va_up (σ.1 3) (gMade σ) (if g = 0 then 0 else 1) o := fun _ => rfl
  have hth : ∀ o, o < gMade σ → gThere σ o = 1 → o < gMade (sObj σ g) ∧ gThere (sObj σ g) o = 1 := fun o h1 h2 => ⟨Nat.lt_succ_of_lt h1, by rw [et, va_up_ne _ _ (by omega)]; exact h2⟩
  refine ⟨⟨Nat.succ_le_succ a1, Nat.le_succ_of_le a2, Nat.le_succ_of_le a3, hlt, a5, a6, a7, a8⟩, ⟨fun o => ?_, fun o => ?_, fun o ho => ?_, fun j hj => t4 j (by have hj' : 8 * (gMade σ + 1) ≤ j := hj; omega)⟩, ⟨n1, n2, fun k hk => Nat.le_succ_of_le (n3 k hk), n4⟩, i4, ⟨⟨isV_of hth v8, isV_of hth v9⟩, i5⟩, fun k r h1 h2 h3 => ?_⟩
  · rw [et]; unfold va_up; split
    · exact Nat.le_refl _
    · exact t1 o
  · rw [eg]; unfold va_up; split
    · split <;> omega
    · exact t2 o
  · show o < gMade σ + 1
    rw [et] at ho
    by_cases e : o = gMade σ
    · omega
    · rw [va_up_ne _ _ e] at ho; have := t3 o ho; omega
  · obtain ⟨q1, q2, q3⟩ := i6 k r h1 h2 h3
    have := t3 _ q2
    refine ⟨q1, ?_, ?_⟩
    · rw [et]; show va_up (σ.1 2) (gMade σ) 1 (gPl σ r / 8) = 1; rw [va_up_ne _ _ (by omega)]; exact q2
    · rw [eg]; show va_up (σ.1 3) (gMade σ) _ (gPl σ r / 8) = 0; rw [va_up_ne _ _ (by omega)]; exact q3
/-- rows behind a new one -/
theorem rbx_keep {σ : Sg} {c k : Nat} : rbx (doKeep σ c) k = if k < gSv σ then gRb σ k else gRows σ + 1 := rfl
theorem kept_iff {σ : Sg} {o c : Nat} : kept σ o c = true ↔ (0 < gSv σ ∧ gGlob σ o = 0 ∧ o < gFst σ (gSv σ - 1)) ∧ hasR σ (gRb σ (gSv σ - 1)) (gRows σ) c = false := by
  unfold kept; simp
theorem inv_keep {B : Nat} {σ : Sg} (h : Inv B σ) {o j : Nat} (ho : gThere σ o = 1) (hj : j < 8) (hk : kept σ o (8 * o + j) = true) : Inv (B + 1) (doKeep σ (8 * o + j)) := by
  obtain ⟨⟨a1, a2, a3, a4, a5, a6, a7, a8⟩, ⟨t1, t2, t3, t4⟩, ⟨n1, n2, n3, n4⟩, ⟨r1, r2, r3, r4, r5, r6⟩, ⟨⟨v8, v9⟩, i5⟩, i6⟩ := h
  obtain ⟨⟨k1, k2, k3⟩, k4⟩ := kept_iff.mp hk
  have ep : ∀ r, gPl (doKeep σ (8 * o + j)) r = va_up (σ.1 12) (gRows σ) (8 * o + j) r := fun _ => rfl
  have rb0 : ∀ k, k < gSv σ → rbx (doKeep σ (8 * o + j)) k = rbx σ k := fun k hk => by rw [rbx_keep, if_pos hk]; unfold rbx; rw [if_pos hk]
  have rb1 : ∀ k, k + 1 < gSv σ → rbx (doKeep σ (8 * o + j)) (k + 1) = rbx σ (k + 1) := fun k hk => rb0 _ hk
  have rbt : rbx σ (gSv σ - 1) = gRb σ (gSv σ - 1) := by unfold rbx; rw [if_pos (by omega)]
  have rbe : rbx σ (gSv σ - 1 + 1) = gRows σ := by unfold rbx; rw [if_neg (by omega)]
  have rbE : rbx (doKeep σ (8 * o + j)) (gSv σ - 1 + 1) = gRows σ + 1 := by rw [rbx_keep, if_neg (by omega)]
  have rle : ∀ k, rbx σ k ≤ gRows σ := fun k => by unfold rbx; split; exact r1 k (by assumption); exact Nat.le_refl _
  refine ⟨⟨Nat.le_succ_of_le a1, Nat.succ_le_succ a2, Nat.le_succ_of_le a3, a4, a5, a6, a7, a8⟩, ⟨t1, t2, t3, t4⟩, ⟨n1, n2, n3, n4⟩, ⟨fun k hk => Nat.le_succ_of_le (r1 k hk), r2, r3, r4, fun h => absurd h (show gSv σ ≠ 0 by omega), r6⟩, ⟨⟨v8, v9⟩, fun k r r' h1 h2 h3 h4 => ?_⟩, fun k r h1 h2 h3 => ?_⟩
  · have h1' : k < gSv σ := h1
    rw [ep, ep]
    rw [rb0 k h1'] at h2
    by_cases e : k + 1 < gSv σ
    · rw [rb1 k e] at h4
      have := rle (k + 1)
      rw [va_up_ne _ _ (by omega), va_up_ne _ _ (by omega)]
      exact i5 k r r' h1' h2 h3 h4
    · have ek : k = gSv σ - 1 := by omega
      subst ek
      rw [rbE] at h4
      by_cases e2 : r' = gRows σ
      · subst e2
        rw [va_up_self, va_up_ne _ _ (by omega)]
        intro e3
        have : hasR σ (gRb σ (gSv σ - 1)) (gRows σ) (8 * o + j) = true := hasR_iff.mpr ⟨r, by rw [← rbt]; exact h2, h3, e3⟩
        rw [k4] at this; cases this
      · rw [va_up_ne _ _ (by omega), va_up_ne _ _ e2]
        exact i5 _ r r' h1' h2 h3 (by rw [rbe]; omega)
  · have h1' : k < gSv σ := h1
    show gPl (doKeep σ (8 * o + j)) r / 8 < gFst σ k ∧ gThere σ (gPl (doKeep σ (8 * o + j)) r / 8) = 1 ∧ gGlob σ (gPl (doKeep σ (8 * o + j)) r / 8) = 0
    rw [ep]
    rw [rb0 k h1'] at h2
    by_cases e : r = gRows σ
    · subst e
      have ek : k = gSv σ - 1 := by
        rcases Nat.lt_or_ge (k + 1) (gSv σ) with g | g
        · rw [rb1 k g] at h3; have := rle (k + 1); omega
        · omega
      subst ek
      rw [va_up_self, show (8 * o + j) / 8 = o by omega]
      exact ⟨k3, ho, k2⟩
    · rw [va_up_ne _ _ e]
      refine i6 k r h1' h2 ?_
      rcases Nat.lt_or_ge (k + 1) (gSv σ) with g | g
      · rw [rb1 k g] at h3; exact h3
      · have ek : k = gSv σ - 1 := by omega
        subst ek
        rw [rbE] at h3
        rw [rbe]; omega
theorem inv_cells {B : Nat} {σ : Sg} (h : Inv B σ) {o j : Nat} (ho : o < gMade σ) (hj : j < 8) {v : Int32} : Inv B (sw σ 0 (va_up (σ.2 0) (8 * o + j) v)) := by
  obtain ⟨i1, ⟨t1, t2, t3, t4⟩, i3, i4, i5, i6⟩ := h
  refine ⟨i1, ⟨t1, t2, t3, fun q hq => ⟨?_, (t4 q hq).2⟩⟩, i3, i4, i5, i6⟩
  show va_up (σ.2 0) (8 * o + j) v q = 0
  have hq' : 8 * gMade σ ≤ q := hq
  rw [va_up_ne _ _ (by omega)]
  exact (t4 q hq).1
def sSave (σ : Sg) : Sg := sf (sf (sw (sf (sf (sf (sf (sf σ 5 (sk (gLast σ + 1))) 7 (va_up (σ.1 7) (gSv σ) (gLast σ + 1))) 8 (va_up (σ.1 8) (gSv σ) (gMade σ))) 9 (va_up (σ.1 9) (gSv σ) (gRows σ))) 10 (va_up (σ.1 10) (gSv σ) (gSt σ))) 3 (va_cpy (σ.2 2) (σ.2 3) 0 (10 * gSv σ) 10)) 4 (sk (gSv σ + 1))) 6 (sk (max (gDeep σ) (gSv σ + 1)))
theorem rbx_save {σ : Sg} (k : Nat) : rbx (sSave σ) k = rbx σ k := by
  show (if k < gSv σ + 1 then va_up (σ.1 9) (gSv σ) (gRows σ) k else gRows σ) = if k < gSv σ then gRb σ k else gRows σ
  by_cases e : k = gSv σ
  · subst e; rw [if_pos (Nat.lt_succ_self _), va_up_self, if_neg (Nat.lt_irrefl _)]
  · rw [va_up_ne _ _ e]
    by_cases g : k < gSv σ
    · rw [if_pos g, if_pos (by omega)]
    · rw [if_neg g, if_neg (by omega)]
theorem inv_save {B : Nat} {σ : Sg} (h : Inv B σ) (hlt : gSv σ < 16) : Inv (B + 1) (sSave σ) := by
  obtain ⟨⟨a1, a2, a3, a4, a5, a6, a7, a8⟩, i2, ⟨n1, n2, n3, n4⟩, ⟨r1, r2, r3, r4, r5, r6⟩, ⟨i5, i5b⟩, i6⟩ := h
  have ev : gSv (sSave σ) = gSv σ + 1 := rfl
  have en : ∀ k, gNum (sSave σ) k = va_up (σ.1 7) (gSv σ) (gLast σ + 1) k := fun _ => rfl
  have ef : ∀ k, gFst (sSave σ) k = va_up (σ.1 8) (gSv σ) (gMade σ) k := fun _ => rfl
  have er : ∀ k, gRb (sSave σ) k = va_up (σ.1 9) (gSv σ) (gRows σ) k := fun _ => rfl
  have es : ∀ k, gSb (sSave σ) k = va_up (σ.1 10) (gSv σ) (gSt σ) k := fun _ => rfl
  refine ⟨⟨Nat.le_succ_of_le a1, Nat.le_succ_of_le a2, Nat.succ_le_succ a3, a4, hlt, a6, Nat.le_max_right _ _, Nat.max_le.mpr ⟨a8, hlt⟩⟩, i2, ⟨fun k hk => ?_, fun i k hik hk => ?_, fun k hk => ?_, fun i k hik hk => ?_⟩, ⟨fun k hk => ?_, fun i k hik hk => ?_, fun k hk => ?_, fun i k hik hk => ?_, fun h => absurd h (Nat.succ_ne_zero _), fun _ => ?_⟩, ⟨i5, fun k r r' h1 h2 h3 h4 => ?_⟩, fun k r h1 h2 h3 => ?_⟩
  · rw [ev] at hk; rw [en]; show 1 ≤ _ ∧ _ ≤ gLast σ + 1
    by_cases e : k = gSv σ
    · subst e; rw [va_up_self]; omega
    · rw [va_up_ne _ _ e]; have := n1 k (by omega); exact ⟨this.1, Nat.le_succ_of_le this.2⟩
  · rw [ev] at hk; rw [en, en, va_up_ne _ _ (show i ≠ gSv σ by omega)]
    by_cases e : k = gSv σ
    · subst e; rw [va_up_self]; have := (n1 i (by omega)).2; exact Nat.lt_succ_of_le this
    · rw [va_up_ne _ _ e]; exact n2 i k hik (by omega)
  · rw [ev] at hk; rw [ef]; show _ ≤ gMade σ
    by_cases e : k = gSv σ
    · subst e; rw [va_up_self]; exact Nat.le_refl _
    · rw [va_up_ne _ _ e]; exact n3 k (by omega)
  · rw [ev] at hk; rw [ef, ef]
    by_cases e : k = gSv σ
    · subst e; rw [va_up_self]
      by_cases e2 : i = gSv σ
      · subst e2; rw [va_up_self]; exact Nat.le_refl _
      · rw [va_up_ne _ _ e2]; exact n3 i (by omega)
    · rw [va_up_ne _ _ e, va_up_ne _ _ (by omega)]; exact n4 i k hik (by omega)
  · rw [ev] at hk; rw [er]; show _ ≤ gRows σ
    by_cases e : k = gSv σ
    · subst e; rw [va_up_self]; exact Nat.le_refl _
    · rw [va_up_ne _ _ e]; exact r1 k (by omega)
  · rw [ev] at hk; rw [er, er]
    by_cases e : k = gSv σ
    · subst e; rw [va_up_self]
      by_cases e2 : i = gSv σ
      · subst e2; rw [va_up_self]; exact Nat.le_refl _
      · rw [va_up_ne _ _ e2]; exact r1 i (by omega)
    · rw [va_up_ne _ _ e, va_up_ne _ _ (by omega)]; exact r2 i k hik (by omega)
  · rw [ev] at hk; rw [es]; show _ ≤ gSt σ
    by_cases e : k = gSv σ
    · subst e; rw [va_up_self]; exact Nat.le_refl _
    · rw [va_up_ne _ _ e]; exact r3 k (by omega)
  · rw [ev] at hk; rw [es, es]
    by_cases e : k = gSv σ
    · subst e; rw [va_up_self]
      by_cases e2 : i = gSv σ
      · subst e2; rw [va_up_self]; exact Nat.le_refl _
      · rw [va_up_ne _ _ e2]; exact r3 i (by omega)
    · rw [va_up_ne _ _ e, va_up_ne _ _ (by omega)]; exact r4 i k hik (by omega)
  · rw [er]
    by_cases e : gSv σ = 0
    · rw [e, va_up_self]; exact r5 e
    · rw [va_up_ne _ _ (by omega)]; exact r6 (by omega)
  · rw [ev] at h1
    rw [rbx_save] at h2 h4
    by_cases e : k = gSv σ
    · subst e; unfold rbx at h2 h4; rw [if_neg (by omega)] at h2 h4; omega
    · exact i5b k r r' (by omega) h2 h3 h4
  · rw [ev] at h1
    rw [rbx_save] at h2 h3
    by_cases e : k = gSv σ
    · subst e; unfold rbx at h2 h3; rw [if_neg (by omega)] at h2 h3; omega
    · rw [ef, va_up_ne _ _ e]; exact i6 k r (by omega) h2 h3
end
section
/-! keepRow, put -/
theorem FrC.trans {G G' G'' : Nat → Nat} {M M1 M2 : Mem} (h1 : FrC G G' M M1) (h2 : FrC G' G'' M1 M2) : FrC G G'' M M2 := by
  obtain ⟨a1, a2⟩ := h1
  obtain ⟨b1, b2⟩ := h2
  refine ⟨fun a h => ?_, fun a h g => ?_⟩
  · by_cases hM : M a = none
    · exact Or.inr hM
    · by_cases hG : G a = 0
      · have e := a2 a hG hM
        rcases b1 a h with q | q
        · rcases a1 a q with q | q
          · exact absurd hG q
          · exact absurd q hM
        · rw [e] at q; exact absurd q hM
      · exact Or.inl hG
  · have e := a2 a h g
    have g' : G' a = 0 := by
      by_cases q : G' a = 0
      · exact q
      · rcases a1 a q with q | q
        · exact absurd h q
        · exact absurd q g
    rw [b2 a g' (by rw [e]; exact g), e]
theorem ownr_lt {B : Nat} {σ : Sg} (hI : Inv B σ) {c k : Nat} (hk : k < gSv σ) : ∀ j, j ≤ k → ownr σ j c < gNum σ k := by
  intro j
  induction j with
  | zero => intro _; have := (hI.2.2.1.1 k hk).1; exact this
  | succ j ih =>
    intro hj
    simp only [ownr]
    split
    · exact hI.2.2.1.2.1 j k (by omega) hk
    · exact ih (by omega)
theorem ownr_top {σ : Sg} {k c : Nat} (hk : gSv σ = k + 1) : ownr σ (gSv σ) c = if hasR σ (gRb σ k) (gRows σ) c then gNum σ k else ownr σ k c := by
  rw [hk]
  simp only [ownr]
  rw [show rbx σ k = gRb σ k by unfold rbx; rw [if_pos (by omega)], show rbx σ (k + 1) = gRows σ by unfold rbx; rw [if_neg (by omega)]]
set_option maxHeartbeats 4000000 in
theorem keepC {ct : Nat → ClassId} {A : Nat → Nat → Nat} {G ob : Nat → Nat} {σ : Sg} {M : Mem} {x B : Nat} (hC : RepC ct A G ob σ M x) (hI : Inv B σ) {o j k : Nat} (ho : gThere σ o = 1) (hj : j < 8) (hsv : gSv σ = k + 1) (hK : kept σ o (8 * o + j) = true) {q : Nat} (fq : M q = none) {w : Nat → Int32} (hw2 : ∀ i, i < 8 → w i = nI (ownr σ (gSv σ) (8 * o + i))) {M' : Mem} (hold : ∀ a, M a ≠ none → a ≠ A 6 k → a ≠ A 11 o → M' a = M a)
    (mq : M' q = some (.inr (0, [.ref (A 8 o), .int (nI j), .int (gCe σ (8 * o + j)), .int (nI (ownr σ (gSv σ) (8 * o + j))), va_rf (rowOf A (rbx σ k) (gRows σ))]))) (m6 : M' (A 6 k) = some (sE A σ k (nI (gNum σ k)) (nI (gFst σ k)) (nI (gSb σ k)) (some q) (nI (gRows σ - gRb σ k + 1)))) (m11 : M' (A 11 o) = some (.inl (ct 0, 8, .inl (upd w j (nI (gNum σ k)))))) :
    ∃ A' G', RepC ct A' G' ob (doKeep σ (8 * o + j)) M' x ∧ FrC G G' M M' ∧ A' 8 o = A 8 o := by
  obtain ⟨D1, D2, D3, D4, D5, D6⟩ := RepC.dom hC hI
  obtain ⟨hx0, hG, hO, ⟨⟨tf0, a1, a2⟩, ⟨s9, a3, a4⟩, a5, ⟨uf, a6, a7⟩, a8⟩, hT, hS, hR⟩ := hC
  obtain ⟨⟨k1, k2, k3⟩, k4⟩ := kept_iff.mp hK
  rw [show gSv σ - 1 = k by omega] at k3 k4
  obtain ⟨A', hAq, hAo, hAr⟩ : ∃ A' : Nat → Nat → Nat, A' 12 (gRows σ) = q ∧ (∀ r i, r ≠ 12 → A' r i = A r i) ∧ (∀ i, i ≠ gRows σ → A' 12 i = A 12 i) :=
    ⟨fun r i => if r = 12 then (if i = gRows σ then q else A r i) else A r i, by simp, fun r i h => by simp [h], fun i h => by simp [h]⟩
  obtain ⟨G', hGq, hGo⟩ : ∃ G' : Nat → Nat, G' q = 16 * gRows σ + 12 ∧ ∀ a, a ≠ q → G' a = G a := ⟨va_up G q (16 * gRows σ + 12), va_up_self _ _ _, fun a h => va_up_ne _ _ h⟩
  have hGd : ∀ a, M a ≠ none → G' a = G a := fun a h => hGo a (fun e => h (by rw [e]; exact fq))
  have g6 := (hG.2.2.2.1 k (by have := hI.1.2.2.2.2.1; omega)).1
  have g11 := (hG.2.2.2.2.1 o ho).2.2.2
  have mv : ∀ a, M a ≠ none → G a ≠ 16 * k + 6 → G a ≠ 16 * o + 11 → M' a = M a := fun a h1 h2 h3 => hold a h1 (fun e => h2 (by rw [e]; exact g6)) (fun e => h3 (by rw [e]; exact g11))
  have ev : gSv (doKeep σ (8 * o + j)) = gSv σ := rfl
  have ep : ∀ r, gPl (doKeep σ (8 * o + j)) r = va_up (σ.1 12) (gRows σ) (8 * o + j) r := fun _ => rfl
  have evl : ∀ r, gVal (doKeep σ (8 * o + j)) r = va_up (σ.2 4) (gRows σ) (gCe σ (8 * o + j)) r := fun _ => rfl
  have rle : ∀ k, rbx σ k ≤ gRows σ := rbx_le hI
  have rb0 : ∀ i, i ≤ k → rbx (doKeep σ (8 * o + j)) i = rbx σ i := fun i hi => by rw [rbx_keep, if_pos (by omega)]; unfold rbx; rw [if_pos (by omega)]
  have rbk : rbx σ k = gRb σ k := by unfold rbx; rw [if_pos (by omega)]
  have rbe : rbx σ (k + 1) = gRows σ := by unfold rbx; rw [if_neg (by omega)]
  have rbE : rbx (doKeep σ (8 * o + j)) (k + 1) = gRows σ + 1 := by rw [rbx_keep, if_neg (by omega)]
  have pls : ∀ r, r < gRows σ → gPl (doKeep σ (8 * o + j)) r = gPl σ r := fun r hr => by rw [ep, va_up_ne _ _ (by omega)]
  have owk : ∀ i c, i ≤ k → ownr (doKeep σ (8 * o + j)) i c = ownr σ i c := fun i c hi => ownr_congr i c (fun a ha => rb0 a (by omega)) (fun a r _ _ h => pls r (Nat.lt_of_lt_of_le h (rle _))) (fun _ _ => rfl)
  have owt : ∀ c, ownr (doKeep σ (8 * o + j)) (gSv σ) c = if c = 8 * o + j then gNum σ k else ownr σ (gSv σ) c := by
    intro c
    rw [ownr_top hsv]
    refine (ownr_top (σ := doKeep σ (8 * o + j)) (k := k) hsv).trans ?_
    show (if hasR (doKeep σ (8 * o + j)) (gRb σ k) (gRows σ + 1) c then gNum σ k else ownr (doKeep σ (8 * o + j)) k c) = _
    by_cases e : c = 8 * o + j
    · rw [if_pos e, if_pos]
      exact hasR_iff.mpr ⟨gRows σ, by rw [← rbk]; exact rle k, Nat.lt_succ_self _, by rw [ep, va_up_self, e]⟩
    · rw [if_neg e, owk k c (Nat.le_refl _)]
      have : hasR (doKeep σ (8 * o + j)) (gRb σ k) (gRows σ + 1) c = hasR σ (gRb σ k) (gRows σ) c := by
        rw [Bool.eq_iff_iff, hasR_iff, hasR_iff]
        constructor
        · rintro ⟨r, h1, h2, h3⟩
          by_cases e2 : r = gRows σ
          · subst e2; rw [ep, va_up_self] at h3; exact absurd h3.symm e
          · exact ⟨r, h1, by omega, by rw [pls r (by omega)] at h3; exact h3⟩
        · rintro ⟨r, h1, h2, h3⟩
          exact ⟨r, h1, by omega, by rw [pls r h2]; exact h3⟩
      rw [this]
  have br : ∀ lo hi, hi ≤ gRows σ → rowOf A' lo hi = rowOf A lo hi := fun lo hi h => by
    unfold rowOf
    split
    · rw [hAr _ (by omega)]
    · rfl
  refine ⟨A', G', ⟨?_, ?_, hO, ⟨⟨tf0, ?_, fun i hi => ?_⟩, ⟨s9, ?_, fun i hi => ?_⟩, ?_, ⟨uf, ?_, fun i hi => ?_⟩, fun i hi => ?_⟩, fun o' ho' => ?_, fun i hi => ?_, fun i r h1 h2 h3 => ?_⟩, ⟨?_, ?_⟩, hAo 8 o (by decide)⟩
  · rw [mv x D1 (by rw [hG.1]; omega) (by rw [hG.1]; omega), hx0]; unfold xE; rw [hAo 1 0 (by decide), hAo 2 0 (by decide), hAo 3 0 (by decide), hAo 4 0 (by decide)]; rfl
  · refine ⟨by rw [hGd x D1]; exact hG.1, fun i h1 h2 => ?_, fun i hi => ?_, fun i hi => ?_, fun o' ho' => ?_, fun r hr => ?_⟩
    · rw [hAo i 0 (by omega), hGd _ (D2 i h1 h2)]; exact hG.2.1 i h1 h2
    · rw [hAo 5 i (by decide), hGd _ (D3 i hi)]; exact hG.2.2.1 i hi
    · rw [hAo 6 i (by decide), hAo 7 i (by decide), hGd _ (D4 i hi).1, hGd _ (D4 i hi).2]; exact hG.2.2.2.1 i hi
    · obtain ⟨d1, d2, d3, d4⟩ := D5 o' ho'
      rw [hAo 8 o' (by decide), hAo 9 o' (by decide), hAo 10 o' (by decide), hAo 11 o' (by decide), hGd _ d1, hGd _ d2, hGd _ d3, hGd _ d4]
      exact hG.2.2.2.2.1 o' ho'
    · have hr' : r < gRows σ + 1 := hr
      by_cases e : r = gRows σ
      · subst e; rw [hAq]; exact hGq
      · rw [hAr r e, hGd _ (D6 r (by omega))]; exact hG.2.2.2.2.2 r (by omega)
  · rw [hAo 1 0 (by decide), mv _ (D2 1 (by decide) (by decide)) (by rw [hG.2.1 1 (by decide) (by decide)]; omega) (by rw [hG.2.1 1 (by decide) (by decide)]; omega)]; exact a1
  · rw [hAo 8 _ (by decide)]; exact a2 i hi
  · rw [hAo 2 0 (by decide), mv _ (D2 2 (by decide) (by decide)) (by rw [hG.2.1 2 (by decide) (by decide)]; omega) (by rw [hG.2.1 2 (by decide) (by decide)]; omega)]; exact a3
  · rw [hAo 6 i (by decide)]; exact a4 i hi
  · rw [hAo 3 0 (by decide)]; exact a5.same (mv _ (D2 3 (by decide) (by decide)) (by rw [hG.2.1 3 (by decide) (by decide)]; omega) (by rw [hG.2.1 3 (by decide) (by decide)]; omega))
  · rw [hAo 4 0 (by decide), mv _ (D2 4 (by decide) (by decide)) (by rw [hG.2.1 4 (by decide) (by decide)]; omega) (by rw [hG.2.1 4 (by decide) (by decide)]; omega)]; exact a6
  · rw [hAo 5 i (by decide)]; exact a7 i hi
  · rw [hAo 5 i (by decide), mv _ (D3 i hi) (by rw [hG.2.2.1 i hi]; omega) (by rw [hG.2.2.1 i hi]; omega)]; exact a8 i hi
  · obtain ⟨d1, d2, d3, d4⟩ := D5 o' ho'
    obtain ⟨g1, g2, g3, g4⟩ := hG.2.2.2.2.1 o' ho'
    obtain ⟨h1, h2, h3, h4⟩ := hT o' ho'
    have b8 := hAo 8 o' (by decide); have b9 := hAo 9 o' (by decide); have b10 := hAo 10 o' (by decide); have b11 := hAo 11 o' (by decide)
    refine ⟨?_, ?_, ?_, ?_⟩
    · rw [b8, mv _ d1 (by rw [g1]; omega) (by rw [g1]; omega), h1]; unfold tE; rw [b9, b10, b11]; rfl
    · rw [b9]; exact h2.same (mv _ d2 (by rw [g2]; omega) (by rw [g2]; omega))
    · rw [b10]; exact h3.same (mv _ d3 (by rw [g3]; omega) (by rw [g3]; omega))
    · rw [b11, ev]
      by_cases e : o' = o
      · subst e
        refine ⟨_, m11, fun i hi => ?_⟩
        show upd w j (nI (gNum σ k)) i = nI (ownr (doKeep σ (8 * o' + j)) (gSv σ) (8 * o' + i))
        rw [owt]
        by_cases e2 : i = j
        · subst e2; rw [if_pos rfl, pk_us]
        · rw [if_neg (by omega), pk_un e2]; exact hw2 i hi
      · exact (h4.same (mv _ d4 (by rw [g4]; omega) (by rw [g4]; omega))).to (fun i hi => by rw [owt, if_neg (by omega)])
  · obtain ⟨h1, h2⟩ := hS i hi
    obtain ⟨d1, d2⟩ := D4 i hi
    obtain ⟨g1, g2⟩ := hG.2.2.2.1 i hi
    have m7 := mv _ d2 (by rw [g2]; omega) (by rw [g2]; omega)
    have b6 := hAo 6 i (by decide); have b7 := hAo 7 i (by decide)
    by_cases e : i = k
    · subst e
      refine ⟨fun h => ⟨?_, ?_⟩, fun h => absurd h (by rw [ev]; omega)⟩
      · rw [b6, m6, rb0 i (Nat.le_refl _), rbE, rbk, show rowOf A' (gRb σ i) (gRows σ + 1) = some q by unfold rowOf; rw [if_pos (by have := rle i; rw [rbk] at this; omega), Nat.add_sub_cancel, hAq]]
        unfold sE
        rw [b7, show gRows σ + 1 - gRb σ i = gRows σ - gRb σ i + 1 by have := rle i; rw [rbk] at this; omega]
        rfl
      · rw [b7]; exact (h1 (by omega)).2.same m7
    · have m6' := mv _ d1 (by rw [g1]; omega) (by rw [g1]; omega)
      refine ⟨fun h => ?_, fun h => ?_⟩
      · have hi' : i < gSv σ := h
        obtain ⟨p1, p2⟩ := h1 hi'
        refine ⟨?_, ?_⟩
        · rw [b6, m6', p1, rb0 i (by omega), rb0 (i + 1) (by omega), br _ _ (rle _)]; unfold sE; rw [b7]; rfl
        · rw [b7]; exact p2.same m7
      · obtain ⟨n, f, p, g9, p1, p2⟩ := h2 h
        refine ⟨n, f, p, g9, ?_, ?_⟩
        · rw [b6, m6', p1]; unfold sE; rw [b7]
        · rw [b7, m7]; exact p2
  · have h1' : i < gSv σ := h1
    rw [rb0 i (by omega)] at h2
    by_cases e : r = gRows σ
    · subst e
      have ei : i = k := by
        rcases Nat.lt_or_ge i k with g | g
        · rw [rb0 (i + 1) (by omega)] at h3; have := rle (i + 1); omega
        · omega
      subst ei
      unfold RepR
      rw [hAq, mq, ep, va_up_self, evl, va_up_self, owk i _ (Nat.le_refl _), rb0 i (Nat.le_refl _), br _ _ (Nat.le_refl _), hAo 8 _ (by decide), show (8 * o + j) / 8 = o by omega, show (8 * o + j) % 8 = j by omega, ownr_top hsv, k4]
      rfl
    · have hr : r < gRows σ := by
        rcases Nat.lt_or_ge i k with g | g
        · rw [rb0 (i + 1) (by omega)] at h3; have := rle (i + 1); omega
        · rw [show i = k by omega, rbE] at h3; omega
      have h3' : r < rbx σ (i + 1) := by
        rcases Nat.lt_or_ge i k with g | g
        · rw [rb0 (i + 1) (by omega)] at h3; exact h3
        · rw [show i = k by omega, rbe]; exact hr
      have := hR i r h1' h2 h3'
      unfold RepR at this ⊢
      rw [hAr r e, mv _ (D6 r hr) (by rw [hG.2.2.2.2.2 r hr]; omega) (by rw [hG.2.2.2.2.2 r hr]; omega), this, pls r hr, evl, va_up_ne _ _ e, owk i _ (by omega), rb0 i (by omega), br _ _ (by omega), hAo 8 _ (by decide)]
  · intro a h
    by_cases hM : M a = none
    · exact Or.inr hM
    · rw [hGd a hM] at h; exact Or.inl h
  · intro a h1 h2
    exact mv a h2 (by rw [h1]; omega) (by rw [h1]; omega)
set_option maxHeartbeats 4000000 in
set_option maxRecDepth 100000 in
theorem c_keepRow (l : Launch) (hl : l.stackTraces = false) (base : Nat) (D : va_G) (ct : Nat → ClassId) (sa : Nat → Nat) {A : Nat → Nat → Nat} {G ob : Nat → Nat} {σ : Sg} {M : Mem} {x B : Nat} (hC : RepC ct A G ob σ M x) (hI : Inv B σ) (hB : B ≤ 600) {o j : Nat} (ho : gThere σ o = 1) (hj : j < 8) :
    CT l yX3_keepRow (.code yX3_keepRow cX3_keepRow 4 none :: WL) (rmK 2 1 5) base D ct sa M [.ref x, .ref (A 8 o), .int (nI j)] (fun v M' => v = none ∧ ∃ A' G', RepC ct A' G' ob (if kept σ o (8 * o + j) then doKeep σ (8 * o + j) else σ) M' x ∧ FrC G G' M M' ∧ A' 8 o = A 8 o) noX := by
  refine CT.of hl (by decide) (Nat.le_of_ble_eq_true rfl) ?_
  intro p e s m below meth c C hr hx
  obtain ⟨hx0, hG, hO, hA, hT, hS, hR⟩ := id hC
  obtain ⟨sf9, hsf, hsf2⟩ := hA.2.1
  obtain ⟨⟨i1, i2, i3, i4, i5, i6, i7, i8⟩, ⟨t1, t2, t3, t4⟩, ⟨m1, m2, m3, m4⟩, -⟩ := id hI
  obtain ⟨ht0, ⟨f, hf, hf2⟩, -, ⟨w, hw, hw2⟩⟩ := hT o ho
  have hom := t3 o ho
  have kfl : (¬ kept σ o (8 * o + j) = true) → kept σ o (8 * o + j) = false := fun h => by rw [Bool.not_eq_true] at h; exact h
  have g8 := hG.2.2.2.2.1 o ho
  rcases Nat.eq_zero_or_pos (gSv σ) with h0 | h0
  · have kf := kfl (fun h => absurd (kept_iff.mp h).1.1 (by omega))
    refine V_aload_n C dX3_keepRow_0 (by rfl) ?_
    refine V_get C (ci := 3) hx0 rfl wu_X3 4 (by decide) fl_X3_28 rfl (by rfl) dX3_keepRow_1 ?_
    refine V_if_le C 14 dX3_keepRow_4 (by decide) (fun h_4 => ?_) (fun h_4 => absurd h_4 (fun h => h (by rw [h0]; decide)))
    exact V_vret C hr (by decide) (by decide) dX3_keepRow_14 ⟨rfl, A, G, by rw [if_neg (by rw [kf]; decide)]; exact hC, FrC.rfl, rfl⟩
  · obtain ⟨k, hsv⟩ : ∃ k, gSv σ = k + 1 := ⟨gSv σ - 1, by omega⟩
    have hkk : gSv σ - 1 = k := by omega
    have hs6 := ((hS k (by omega)).1 (by omega)).1
    have g6 := hG.2.2.2.1 k (by omega)
    have hfm := m3 k (by omega)
    have hnm := (m1 k (by omega)).2
    have rbk : rbx σ k = gRb σ k := by unfold rbx; rw [if_pos (by omega)]
    have rbe : rbx σ (k + 1) = gRows σ := by unfold rbx; rw [if_neg (by omega)]
    by_cases hg : gGlob σ o = 1
    · have kf := kfl (fun h => by have := (kept_iff.mp h).1.2.1; omega)
      refine V_aload_n C dX3_keepRow_0 (by rfl) ?_
      refine V_get C (ci := 3) hx0 rfl wu_X3 4 (by decide) fl_X3_28 rfl (by rfl) dX3_keepRow_1 ?_
      refine V_if_le C 14 dX3_keepRow_4 (by decide) (fun h_4 => absurd h_4 (nI_nle (by omega) (by omega))) (fun h_4 => ?_)
      refine V_aload_n C dX3_keepRow_7 (by rfl) ?_
      refine V_get C (ci := 2) ht0 rfl wu_X2 1 (by decide) fl_X3_75 rfl (by rfl) dX3_keepRow_8 ?_
      refine V_if_eq C 15 dX3_keepRow_11 (by decide) (fun h_11 => absurd h_11 (by rw [hg]; decide)) (fun h_11 => ?_)
      exact V_vret C hr (by decide) (by decide) dX3_keepRow_14 ⟨rfl, A, G, by rw [if_neg (by rw [kf]; decide)]; exact hC, FrC.rfl, rfl⟩
    · have hg : gGlob σ o = 0 := by have := t2 o; omega
      by_cases hn : gFst σ k ≤ o
      · have kf := kfl (fun h => by have := (kept_iff.mp h).1.2.2; rw [hkk] at this; omega)
        refine V_aload_n C dX3_keepRow_0 (by rfl) ?_
        refine V_get C (ci := 3) hx0 rfl wu_X3 4 (by decide) fl_X3_28 rfl (by rfl) dX3_keepRow_1 ?_
        refine V_if_le C 14 dX3_keepRow_4 (by decide) (fun h_4 => absurd h_4 (nI_nle (by omega) (by omega))) (fun h_4 => ?_)
        refine V_aload_n C dX3_keepRow_7 (by rfl) ?_
        refine V_get C (ci := 2) ht0 rfl wu_X2 1 (by decide) fl_X3_75 rfl (by rfl) dX3_keepRow_8 ?_
        refine V_if_eq C 15 dX3_keepRow_11 (by decide) (fun h_11 => ?_) (fun h_11 => absurd h_11 (fun h => h (by rw [hg]; rfl)))
        refine V_aload_n C dX3_keepRow_15 (by rfl) ?_
        refine V_get C (ci := 3) hx0 rfl wu_X3 3 (by decide) fl_X3_24 rfl (by rfl) dX3_keepRow_16 ?_
        refine V_aload_n C dX3_keepRow_19 (by rfl) ?_
        refine V_get C (ci := 3) hx0 rfl wu_X3 4 (by decide) fl_X3_28 rfl (by rfl) dX3_keepRow_20 ?_
        refine V_iconst C (1) dX3_keepRow_23 (by decide) ?_
        refine V_isub C dX3_keepRow_24 ?_
        refine V_top (y := nI k) (by rw [hsv]; exact nI_pred k) ?_
        refine N_aldS C hsf (by omega) (by decide) (hsf2 k (by omega)) dX3_keepRow_25 ?_
        refine V_astore_n C dX3_keepRow_26 (by decide) ?_
        refine V_aload_n C dX3_keepRow_27 (by rfl) ?_
        refine V_aload_n C dX3_keepRow_28 (by rfl) ?_
        refine V_callV C hx (As := [.ref (A 6 k)]) (c_isNewerThan l hl base D ct sa (by omega) (by omega) ht0 hs6) w_X3_146 ht0 rfl rfl (by decide) (Nat.le_of_ble_eq_true rfl) ⟨by decide, by decide⟩ dX3_keepRow_29 (by decide) (by decide) (fun _ _ h => h.elim) (fun v M1 hv => ?_)
        obtain ⟨rfl, rfl⟩ := hv
        refine VV.eqv (st' := [.int (b2i (decide (gFst σ k ≤ o)))]) rfl rfl ?_
        refine V_if_ne C 48 dX3_keepRow_32 (by decide) (fun h_32 => ?_) (fun h_32 => absurd h_32 (fun h => by rw [decide_eq_true hn] at h; exact absurd h (by decide)))
        exact V_vret C hr (by decide) (by decide) dX3_keepRow_48 ⟨rfl, A, G, by rw [if_neg (by rw [kf]; decide)]; exact hC, FrC.rfl, rfl⟩
      · have hol : ownr σ k (8 * o + j) < gNum σ k := ownr_lt hI (by omega) k (Nat.le_refl _)
        have hle : ownr σ (gSv σ) (8 * o + j) ≤ gNum σ k := by rw [ownr_top hsv]; split <;> omega
        by_cases ho9 : ownr σ (gSv σ) (8 * o + j) = gNum σ k
        · have kf := kfl (fun h => by
            have h4 := (kept_iff.mp h).2
            rw [hkk] at h4
            rw [ownr_top hsv, h4] at ho9
            simp at ho9
            omega)
          refine V_aload_n C dX3_keepRow_0 (by rfl) ?_
          refine V_get C (ci := 3) hx0 rfl wu_X3 4 (by decide) fl_X3_28 rfl (by rfl) dX3_keepRow_1 ?_
          refine V_if_le C 14 dX3_keepRow_4 (by decide) (fun h_4 => absurd h_4 (nI_nle (by omega) (by omega))) (fun h_4 => ?_)
          refine V_aload_n C dX3_keepRow_7 (by rfl) ?_
          refine V_get C (ci := 2) ht0 rfl wu_X2 1 (by decide) fl_X3_75 rfl (by rfl) dX3_keepRow_8 ?_
          refine V_if_eq C 15 dX3_keepRow_11 (by decide) (fun h_11 => ?_) (fun h_11 => absurd h_11 (fun h => h (by rw [hg]; rfl)))
          refine V_aload_n C dX3_keepRow_15 (by rfl) ?_
          refine V_get C (ci := 3) hx0 rfl wu_X3 3 (by decide) fl_X3_24 rfl (by rfl) dX3_keepRow_16 ?_
          refine V_aload_n C dX3_keepRow_19 (by rfl) ?_
          refine V_get C (ci := 3) hx0 rfl wu_X3 4 (by decide) fl_X3_28 rfl (by rfl) dX3_keepRow_20 ?_
          refine V_iconst C (1) dX3_keepRow_23 (by decide) ?_
          refine V_isub C dX3_keepRow_24 ?_
          refine V_top (y := nI k) (by rw [hsv]; exact nI_pred k) ?_
          refine N_aldS C hsf (by omega) (by decide) (hsf2 k (by omega)) dX3_keepRow_25 ?_
          refine V_astore_n C dX3_keepRow_26 (by decide) ?_
          refine V_aload_n C dX3_keepRow_27 (by rfl) ?_
          refine V_aload_n C dX3_keepRow_28 (by rfl) ?_
          refine V_callV C hx (As := [.ref (A 6 k)]) (c_isNewerThan l hl base D ct sa (by omega) (by omega) ht0 hs6) w_X3_146 ht0 rfl rfl (by decide) (Nat.le_of_ble_eq_true rfl) ⟨by decide, by decide⟩ dX3_keepRow_29 (by decide) (by decide) (fun _ _ h => h.elim) (fun v M1 hv => ?_)
          obtain ⟨rfl, rfl⟩ := hv
          refine VV.eqv (st' := [.int (b2i (decide (gFst σ k ≤ o)))]) rfl rfl ?_
          refine V_if_ne C 48 dX3_keepRow_32 (by decide) (fun h_32 => absurd h_32 (by rw [decide_eq_false (by omega)]; exact fun h => h rfl)) (fun h_32 => ?_)
          refine V_aload_n C dX3_keepRow_35 (by rfl) ?_
          refine V_get C (ci := 2) ht0 rfl wu_X2 4 (by decide) fl_X3_167 rfl (by rfl) dX3_keepRow_36 ?_
          refine V_iload_n C dX3_keepRow_39 (by rfl) ?_
          refine N_iald C hw hj (by decide) dX3_keepRow_40 ?_
          refine V_aload_n C dX3_keepRow_41 (by rfl) ?_
          refine V_get C (ci := 1) hs6 rfl wu_X1 0 (by decide) fl_X3_97 rfl (by rfl) dX3_keepRow_42 ?_
          refine V_icmp_ne C 49 dX3_keepRow_45 (by decide) (fun h_45 => absurd h_45 (fun h => h ((hw2 j hj).trans (congrArg nI ho9)))) (fun h_45 => ?_)
          exact V_vret C hr (by decide) (by decide) dX3_keepRow_48 ⟨rfl, A, G, by rw [if_neg (by rw [kf]; decide)]; exact hC, FrC.rfl, rfl⟩
        · have kt : kept σ o (8 * o + j) = true := kept_iff.mpr ⟨⟨h0, hg, by rw [hkk]; omega⟩, by
            rw [hkk]
            cases h4 : hasR σ (gRb σ k) (gRows σ) (8 * o + j) with
            | false => rfl
            | true => rw [ownr_top hsv, h4] at ho9; exact absurd (if_pos rfl) ho9⟩
          refine V_aload_n C dX3_keepRow_0 (by rfl) ?_
          refine V_get C (ci := 3) hx0 rfl wu_X3 4 (by decide) fl_X3_28 rfl (by rfl) dX3_keepRow_1 ?_
          refine V_if_le C 14 dX3_keepRow_4 (by decide) (fun h_4 => absurd h_4 (nI_nle (by omega) (by omega))) (fun h_4 => ?_)
          refine V_aload_n C dX3_keepRow_7 (by rfl) ?_
          refine V_get C (ci := 2) ht0 rfl wu_X2 1 (by decide) fl_X3_75 rfl (by rfl) dX3_keepRow_8 ?_
          refine V_if_eq C 15 dX3_keepRow_11 (by decide) (fun h_11 => ?_) (fun h_11 => absurd h_11 (fun h => h (by rw [hg]; rfl)))
          refine V_aload_n C dX3_keepRow_15 (by rfl) ?_
          refine V_get C (ci := 3) hx0 rfl wu_X3 3 (by decide) fl_X3_24 rfl (by rfl) dX3_keepRow_16 ?_
          refine V_aload_n C dX3_keepRow_19 (by rfl) ?_
          refine V_get C (ci := 3) hx0 rfl wu_X3 4 (by decide) fl_X3_28 rfl (by rfl) dX3_keepRow_20 ?_
          refine V_iconst C (1) dX3_keepRow_23 (by decide) ?_
          refine V_isub C dX3_keepRow_24 ?_
          refine V_top (y := nI k) (by rw [hsv]; exact nI_pred k) ?_
          refine N_aldS C hsf (by omega) (by decide) (hsf2 k (by omega)) dX3_keepRow_25 ?_
          refine V_astore_n C dX3_keepRow_26 (by decide) ?_
          refine V_aload_n C dX3_keepRow_27 (by rfl) ?_
          refine V_aload_n C dX3_keepRow_28 (by rfl) ?_
          refine V_callV C hx (As := [.ref (A 6 k)]) (c_isNewerThan l hl base D ct sa (by omega) (by omega) ht0 hs6) w_X3_146 ht0 rfl rfl (by decide) (Nat.le_of_ble_eq_true rfl) ⟨by decide, by decide⟩ dX3_keepRow_29 (by decide) (by decide) (fun _ _ h => h.elim) (fun v M1 hv => ?_)
          obtain ⟨rfl, rfl⟩ := hv
          refine VV.eqv (st' := [.int (b2i (decide (gFst σ k ≤ o)))]) rfl rfl ?_
          refine V_if_ne C 48 dX3_keepRow_32 (by decide) (fun h_32 => absurd h_32 (by rw [decide_eq_false (by omega)]; exact fun h => h rfl)) (fun h_32 => ?_)
          refine V_aload_n C dX3_keepRow_35 (by rfl) ?_
          refine V_get C (ci := 2) ht0 rfl wu_X2 4 (by decide) fl_X3_167 rfl (by rfl) dX3_keepRow_36 ?_
          refine V_iload_n C dX3_keepRow_39 (by rfl) ?_
          refine N_iald C hw hj (by decide) dX3_keepRow_40 ?_
          refine V_aload_n C dX3_keepRow_41 (by rfl) ?_
          refine V_get C (ci := 1) hs6 rfl wu_X1 0 (by decide) fl_X3_97 rfl (by rfl) dX3_keepRow_42 ?_
          refine V_icmp_ne C 49 dX3_keepRow_45 (by decide) (fun h_45 => ?_) (fun h_45 => absurd h_45 (fun h => ho9 ((nI_eq (by omega) (by omega)).mp ((hw2 j hj).symm.trans h))))
          refine V_aload_n C dX3_keepRow_49 (by rfl) ?_
          refine V_new C (ci := 0) (fs := [.null, .int 0, .int 0, .int 0, .null]) rfl wu_X0 tyX0 tyX0_ok cl_X3_170 in_X0 ini_X0 (fun j hj => by rcases (show j = 0 ∨ j = 1 ∨ j = 2 ∨ j = 3 ∨ j = 4 by omega) with rfl | rfl | rfl | rfl | rfl <;> rfl) (by decide) (by decide) dX3_keepRow_50 (fun q fq => ?_)
          have n6 : A 6 k ≠ q := some_ne hs6 fq
          have n8 : A 8 o ≠ q := some_ne ht0 fq
          have n9 : A 9 o ≠ q := some_ne hf fq
          have n11 : A 11 o ≠ q := some_ne hw fq
          refine V_dup C dX3_keepRow_53 rfl ?_
          refine V_aload_n C dX3_keepRow_54 (by rfl) ?_
          refine V_iload_n C dX3_keepRow_55 (by rfl) ?_
          refine V_aload_n C dX3_keepRow_56 (by rfl) ?_
          refine V_get C (ci := 1) ((mput_ne n6).trans hs6) rfl wu_X1 4 (by decide) fl_X3_172 rfl (by rfl) dX3_keepRow_57 ?_
          refine V_callI C (As := [.ref (A 8 o), .int (nI j), va_rf (rowOf A (rbx σ k) (rbx σ (k + 1)))]) (c_RowInit l hl base D ct sa hj (mput_eq _ _ _) ((mput_ne n8).trans ht0) ((mput_ne n9).trans hf) ((mput_ne n11).trans hw)) w_X3_176 rfl (by decide) (Nat.le_of_ble_eq_true rfl) ⟨by decide, by decide⟩ dX3_keepRow_60 (fun v M2 hv => ?_)
          obtain ⟨rfl, mq, mo⟩ := hv
          refine VV.eqv (st' := [.ref q, .ref (A 6 k)]) rfl rfl ?_
          have h26 : M2 (A 6 k) = _ := (mo _ n6).trans ((mput_ne n6).trans hs6)
          have h28 : M2 (A 8 o) = _ := (mo _ n8).trans ((mput_ne n8).trans ht0)
          have h211 : M2 (A 11 o) = _ := (mo _ n11).trans ((mput_ne n11).trans hw)
          have n86 : A 8 o ≠ A 6 k := ne_tag g8.1 g6.1 (by omega)
          have n116 : A 11 o ≠ A 6 k := ne_tag g8.2.2.2 g6.1 (by omega)
          refine V_put C (ci := 1) h26 rfl wu_X1 4 (by decide) fl_X3_172 rfl tyX1 tyX1_ok nmX1 rfl (by rfl) (by rfl) (Nat.le_of_ble_eq_true rfl) dX3_keepRow_63 ?_
          refine V_aload_n C dX3_keepRow_66 (by rfl) ?_
          refine V_dup C dX3_keepRow_67 rfl ?_
          refine V_get C (ci := 1) (mput_eq _ _ _) rfl wu_X1 5 (by decide) fl_X3_143 rfl (by rfl) dX3_keepRow_68 ?_
          refine V_iconst C (1) dX3_keepRow_71 (by decide) ?_
          refine V_iadd C dX3_keepRow_72 ?_
          refine V_top (nI_1 _) ?_
          refine V_put C (ci := 1) (mput_eq _ _ _) rfl wu_X1 5 (by decide) fl_X3_143 rfl tyX1 tyX1_ok nmX1 rfl (by rfl) (by rfl) (Nat.le_of_ble_eq_true rfl) dX3_keepRow_73 ?_
          refine V_aload_n C dX3_keepRow_76 (by rfl) ?_
          refine V_get C (ci := 2) ((mput_ne n86).trans ((mput_ne n86).trans h28)) rfl wu_X2 4 (by decide) fl_X3_167 rfl (by rfl) dX3_keepRow_77 ?_
          refine V_iload_n C dX3_keepRow_80 (by rfl) ?_
          refine V_aload_n C dX3_keepRow_81 (by rfl) ?_
          refine V_get C (ci := 1) (mput_eq _ _ _) rfl wu_X1 0 (by decide) fl_X3_97 rfl (by rfl) dX3_keepRow_82 ?_
          refine N_iast C ((mput_ne n116).trans ((mput_ne n116).trans h211)) hj (by decide) dX3_keepRow_85 ?_
          exact V_vret C hr (by decide) (by decide) dX3_keepRow_86 (by
            refine ⟨rfl, ?_⟩
            rw [if_pos kt]
            refine keepC hC hI ho hj hsv kt fq hw2 (fun a h1 h2 h3 => ?_) ?_ ?_ (mput_eq _ _ _)
            · have e1 : a ≠ q := fun e => h1 (by rw [e]; exact fq)
              rw [mput_ne h3, mput_ne h2, mput_ne h2, mo a e1, mput_ne e1]
            · rw [mput_ne n11.symm, mput_ne n6.symm, mput_ne n6.symm, mq, hf2 j hj, hw2 j hj, rbe]
            · rw [mput_ne n116.symm, mput_eq, ← rbk, ← rbe]; rfl)
theorem cellsC {ct : Nat → ClassId} {A : Nat → Nat → Nat} {G ob : Nat → Nat} {σ : Sg} {M : Mem} {x B : Nat} (hC : RepC ct A G ob σ M x) (hI : Inv B σ) {o : Nat} (ho : gThere σ o = 1) {f : Nat → Int32} (hf : M (A 9 o) = some (.inl (ct 0, 8, .inl f))) (hf2 : ∀ j, j < 8 → f j = gCe σ (8 * o + j)) {j : Nat} (hj : j < 8) {v : Int32} : RepC ct A G ob (sw σ 0 (va_up (σ.2 0) (8 * o + j) v)) (mput M (A 9 o) (.inl (ct 0, 8, .inl (upd f j v)))) x := by
  obtain ⟨hx0, hG, hO, ⟨⟨tf, a1, a2⟩, ⟨s9, a3, a4⟩, a5, ⟨uf, a6, a7⟩, a8⟩, hT, hS, hR⟩ := hC
  have g3 : G (A 9 o) = 16 * o + 9 := (hG.2.2.2.2.1 o ho).2.1
  have hs : ∀ a, G a ≠ 16 * o + 9 → mput M (A 9 o) (.inl (ct 0, 8, .inl (upd f j v))) a = M a := fun a ha => mput_ne (fun e => ha (by rw [e]; exact g3))
  have ow : ∀ k c, ownr (sw σ 0 (va_up (σ.2 0) (8 * o + j) v)) k c = ownr σ k c := fun k c => ownr_congr k c (fun _ _ => rfl) (fun _ _ _ _ _ => rfl) (fun _ _ => rfl)
  have ne : ∀ o' i, o' ≠ o → i < 8 → gCe σ (8 * o' + i) = va_up (σ.2 0) (8 * o + j) v (8 * o' + i) := fun o' i h hi => by rw [va_up_ne _ _ (by omega)]
  refine ⟨?_, hG, hO, ⟨⟨tf, ?_, a2⟩, ⟨s9, ?_, a4⟩, a5.same (hs _ (by rw [hG.2.1 3 (by decide) (by decide)]; omega)), ⟨uf, ?_, a7⟩, fun k hk => ?_⟩, fun o' ho' => ?_, fun k hk => ?_, fun k r h1 h2 h3 => ?_⟩
  · rw [hs x (by rw [hG.1]; omega)]; exact hx0
  · rw [hs _ (by rw [hG.2.1 1 (by decide) (by decide)]; omega)]; exact a1
  · rw [hs _ (by rw [hG.2.1 2 (by decide) (by decide)]; omega)]; exact a3
  · rw [hs _ (by rw [hG.2.1 4 (by decide) (by decide)]; omega)]; exact a6
  · obtain ⟨g, q1, q2⟩ := a8 k hk
    exact ⟨g, by rw [hs _ (by rw [hG.2.2.1 k hk]; omega)]; exact q1, q2⟩
  · have t := hG.2.2.2.2.1 o' ho'
    by_cases e : o' = o
    · subst e
      obtain ⟨q1, q2, q3, q4⟩ := hT o' ho'
      refine ⟨by rw [hs _ (by rw [t.1]; omega)]; exact q1, arI.new (fun i hi => ?_), q3.same (hs _ (by rw [t.2.2.1]; omega)), (q4.same (hs _ (by rw [t.2.2.2]; omega))).to (fun i _ => by rw [ow]; rfl)⟩
      show upd f j v i = va_up (σ.2 0) (8 * o' + j) v (8 * o' + i)
      by_cases e2 : i = j
      · subst e2; rw [va_up_self, pk_us]
      · rw [pk_un e2, va_up_ne _ _ (by omega)]; exact hf2 i hi
    · exact (hT o' ho').mv (hs _ (by rw [t.1]; omega)) (hs _ (by rw [t.2.1]; omega)) (hs _ (by rw [t.2.2.1]; omega)) (hs _ (by rw [t.2.2.2]; omega)) rfl (fun i hi => ne o' i e hi) (fun _ _ => rfl) (fun i _ => (ow _ _).symm)
  · have t := hG.2.2.2.1 k hk
    exact (hS k hk).mv (hs _ (by rw [t.1]; omega)) (hs _ (by rw [t.2]; omega)) rfl rfl rfl rfl (fun _ _ => rfl) rfl rfl
  · exact (hR k r h1 h2 h3).mv (hs _ (by rw [hG.2.2.2.2.2 r (Nat.lt_of_lt_of_le h3 (rbx_le hI _))]; omega)) rfl rfl (ow _ _) rfl
theorem cells_keep {σ : Sg} {c : Nat} {b : Bool} : (if b then doKeep σ c else σ).2 0 = σ.2 0 := by cases b <;> rfl
theorem there_keep {σ : Sg} {c o : Nat} {b : Bool} : gThere (if b then doKeep σ c else σ) o = gThere σ o := by cases b <;> rfl
set_option maxHeartbeats 4000000 in
set_option maxRecDepth 100000 in
theorem c_put (l : Launch) (hl : l.stackTraces = false) (base : Nat) (D : va_G) (ct : Nat → ClassId) (sa : Nat → Nat) {A : Nat → Nat → Nat} {G ob : Nat → Nat} {σ : Sg} {M : Mem} {x B : Nat} (hC : RepC ct A G ob σ M x) (hI : Inv B σ) (hB : B ≤ 600) (k i v : Int32) :
    CT l yX3_put (.code yX3_put cX3_put 6 (some .int) :: WL) (rmK 7 5 32) base D ct sa M [.ref x, .int k, .int i, .int v] (PostC ct G M x (oPut σ k i v)) (PxC nmN M (oPut σ k i v)) := by
  refine CT.of hl (by decide) (Nat.le_of_ble_eq_true rfl) ?_
  intro p e s m below meth c C hr hx
  obtain ⟨hx0, hG, hO, hA, hT, hS, hR⟩ := id hC
  refine V_aload_n C dX3_put_0 (by rfl) ?_
  refine V_iload_n C dX3_put_1 (by rfl) ?_
  refine V_callV C hx (As := [.int k]) (c_existing l hl base D ct sa hC hI hB k) w_X3_63 hx0 rfl rfl (by decide) (Nat.le_of_ble_eq_true rfl) ⟨by decide, by decide⟩ dX3_put_2 (by decide) (by decide) (fun E M1 h => by obtain ⟨h1, rfl, rfl⟩ := h; rw [show oPut σ k i v = (1, 0, σ) by simp [oPut, h1]]; exact ⟨Nat.one_pos, rfl, rfl⟩) (fun v9 M1 hv => ?_)
  obtain ⟨hk, rfl, rfl⟩ := hv
  obtain ⟨o, rfl, ho, ht, eo⟩ := isO_of hk (Nat.le_trans hI.1.1 hB)
  rw [eo]
  refine V_astore C dX3_put_5 (by decide) ?_
  refine V_aload_n C dX3_put_7 (by rfl) ?_
  refine V_iload_n C dX3_put_8 (by rfl) ?_
  refine V_callV C hx (As := [.int v]) (c_checkValue l hl base D ct sa hC hI hB v) w_X3_67 hx0 rfl rfl (by decide) (Nat.le_of_ble_eq_true rfl) ⟨by decide, by decide⟩ dX3_put_9 (by decide) (by decide) (fun E M2 h => by obtain ⟨h1, rfl, rfl⟩ := h; rw [show oPut σ (nI o) i v = (1, 0, σ) by simp [oPut, h1]]; exact ⟨Nat.one_pos, rfl, rfl⟩) (fun v9 M2 hv => ?_)
  obtain ⟨hvv, rfl, rfl⟩ := hv
  refine V_iload_n C dX3_put_12 (by rfl) ?_
  refine V_bipush C (nI 8) dX3_put_13 (by decide) ?_
  refine V_callS C hx (As := [.int i, .int (nI 8)]) (c_checkIndex l hl base D ct sa M2 i 8 (by decide)) w_X3_71 rfl (by decide) (Nat.le_of_ble_eq_true rfl) ⟨by decide, by decide⟩ dX3_put_15 (by decide) (by decide) (fun E M3 h => by obtain ⟨h1, rfl, rfl⟩ := h; rw [show oPut σ (nI o) i v = (2, 0, σ) by simp [oPut, hk, hvv, h1]]; exact ⟨Nat.zero_lt_succ _, rfl, rfl⟩) (fun v9 M3 hv => ?_)
  obtain ⟨hi, rfl, rfl⟩ := hv
  obtain ⟨j, hj, rfl, ej⟩ := isN_of hi (by decide)
  have ht0 := (hT o ht).1
  have fin : ¬ (gGlob σ o = 1 ∧ v < 0 ∧ gGlob σ (rfOf v) = 0) → VV p l e (rmK 7 5 32) s m ([.ref x, .int (nI o), .int (nI j), .int v] : List Value).toArray below meth c 6 base D (QB base D (PostC ct G M3 x (oPut σ (nI o) (nI j) v)) (PxC nmN M3 (oPut σ (nI o) (nI j) v)) below ([.ref x, .int (nI o), .int (nI j), .int v] : List Value).toArray s 5 32) M3 3 18 44 [(0, .ref x), (1, .int (nI o)), (2, .int (nI j)), (3, .int v), (4, .ref (A 8 o))] [] := by
    intro hne
    have er : oPut σ (nI o) (nI j) v = (0, gCe σ (8 * o + j), sw (if kept σ o (8 * o + j) then doKeep σ (8 * o + j) else σ) 0 (va_up (σ.2 0) (8 * o + j) v)) := by
      simp only [oPut, hk, hvv, hi, eo, ej]
      rw [if_neg (by decide), if_neg (by decide), if_neg hne]
    rw [er]
    refine V_aload_n C dX3_put_44 (by rfl) ?_
    refine V_aload C dX3_put_45 (by rfl) ?_
    refine V_iload_n C dX3_put_47 (by rfl) ?_
    refine V_callV C hx (As := [.ref (A 8 o), .int (nI j)]) (c_keepRow l hl base D ct sa hC hI hB ht hj) w_X3_88 hx0 rfl rfl (by decide) (Nat.le_of_ble_eq_true rfl) ⟨by decide, by decide⟩ dX3_put_48 (by decide) (by decide) (fun _ _ h => h.elim) (fun v9 M4 hv => ?_)
    obtain ⟨rfl, A', G', hC4, hF4, e8⟩ := hv
    refine VV.eqv (st' := []) rfl rfl ?_
    have hI4 : Inv (B + 1) (if kept σ o (8 * o + j) then doKeep σ (8 * o + j) else σ) := by
      cases hkp : kept σ o (8 * o + j) with
      | true => exact inv_keep hI ht hj hkp
      | false => exact hI.mono (Nat.le_succ B)
    have ht4 : gThere (if kept σ o (8 * o + j) then doKeep σ (8 * o + j) else σ) o = 1 := by rw [there_keep]; exact ht
    obtain ⟨hx4, hG4, hO4, hA4, hT4, hS4, hR4⟩ := id hC4
    obtain ⟨h40, ⟨f4, hf4, hf42⟩, -⟩ := hT4 o ht4
    rw [e8] at h40
    refine V_aload C dX3_put_51 (by rfl) ?_
    refine V_get C (ci := 2) h40 rfl wu_X2 2 (by decide) fl_X3_92 rfl (by rfl) dX3_put_53 ?_
    refine V_iload_n C dX3_put_56 (by rfl) ?_
    refine N_iald C hf4 hj (by decide) dX3_put_57 ?_
    refine V_istore C dX3_put_58 (by decide) ?_
    refine V_aload C dX3_put_60 (by rfl) ?_
    refine V_get C (ci := 2) h40 rfl wu_X2 2 (by decide) fl_X3_92 rfl (by rfl) dX3_put_62 ?_
    refine V_iload_n C dX3_put_65 (by rfl) ?_
    refine V_iload_n C dX3_put_66 (by rfl) ?_
    refine N_iast C hf4 hj (by decide) dX3_put_67 ?_
    refine V_iload C dX3_put_68 (by rfl) ?_
    exact V_iret C hr (by decide) (by decide) dX3_put_70 (by
      have := cellsC hC4 hI4 ht4 hf4 hf42 hj (v := v)
      rw [cells_keep] at this
      refine ⟨rfl, ?_, A', G', ob, this, hF4.trans (FrC.of (fun a ha => mput_ne (ne_tag ha (hG4.2.2.2.2.1 o ht4).2.1 (by omega))))⟩
      have e9 : f4 j = gCe σ (8 * o + j) := (hf42 j hj).trans (congrFun cells_keep _)
      rw [e9])
  refine V_aload C dX3_put_18 (by rfl) ?_
  refine V_get C (ci := 2) ht0 rfl wu_X2 1 (by decide) fl_X3_75 rfl (by rfl) dX3_put_20 ?_
  refine V_if_eq C 44 dX3_put_23 (by decide) (fun h23 => ?_) (fun h23 => ?_)
  · refine VV.loc [(0, .ref x), (1, .int (nI o)), (2, .int (nI j)), (3, .int v), (4, .ref (A 8 o))] ⟨rfl, rfl, rfl, rfl, rfl, trivial⟩ ?_
    exact fin (fun h => by rw [h.1] at h23; exact absurd h23 (by decide))
  · refine V_aload_n C dX3_put_26 (by rfl) ?_
    refine V_iload_n C dX3_put_27 (by rfl) ?_
    refine V_callV C hx (As := [.int v]) (c_refersToLocal l hl base D ct sa hC hI hB v hvv) w_X3_79 hx0 rfl rfl (by decide) (Nat.le_of_ble_eq_true rfl) ⟨by decide, by decide⟩ dX3_put_28 (by decide) (by decide) (fun _ _ h => h.elim) (fun v9 M4 hv => ?_)
    obtain ⟨rfl, rfl⟩ := hv
    refine VV.eqv (st' := [.int (b2i (lcl σ v))]) rfl rfl ?_
    refine V_if_eq C 44 dX3_put_31 (by decide) (fun h31 => ?_) (fun h31 => ?_)
    · refine VV.loc [(0, .ref x), (1, .int (nI o)), (2, .int (nI j)), (3, .int v), (4, .ref (A 8 o))] ⟨rfl, rfl, rfl, rfl, rfl, trivial⟩ ?_
      exact fin (fun h => by rw [show lcl σ v = true from decide_eq_true h.2] at h31; exact absurd h31 (by decide))
    · exact V_throw C hx rfl (E := "java/lang/IllegalStateException") (by decide +kernel) cl_X3_83 ini_ES (List.mem_of_getElem? (i := 4) rfl) ea_S eg_S dX3_put_34 dX3_put_37 dX3_put_38 dX3_put_40 dX3_put_43 (by decide) (by decide) (by decide) (by decide) (by decide) (by decide) (by
        have h1 : gGlob σ o = 1 := by
          have := hI.2.1.2.1 o
          rcases Nat.eq_zero_or_pos (gGlob σ o) with h | h
          · rw [h] at h23; exact absurd rfl h23
          · omega
        have h2 : lcl σ v = true := by
          cases h : lcl σ v with
          | true => rfl
          | false => rw [h] at h31; exact absurd rfl h31
        rw [show oPut σ (nI o) (nI j) v = (3, 0, σ) by simp only [oPut, hk, hvv, hi, eo]; rw [if_neg (by decide), if_neg (by decide), if_pos ⟨h1, of_decide_eq_true h2⟩]]
        exact ⟨Nat.zero_lt_succ _, rfl, rfl⟩)
end
section
/-! save -/
theorem nI_max {a b : Nat} (ha : a < 2 ^ 31) (hb : b < 2 ^ 31) : (if nI a < nI b then nI b else nI a) = nI (max a b) := by
  by_cases h : a < b
  · rw [if_pos ((nI_ltI ha hb).mpr h), Nat.max_eq_right (by omega)]
  · rw [if_neg (fun g => h ((nI_ltI ha hb).mp g)), Nat.max_eq_left (by omega)]
set_option maxHeartbeats 4000000 in
theorem saveC {ct : Nat → ClassId} {A : Nat → Nat → Nat} {G ob : Nat → Nat} {σ : Sg} {M : Mem} {x B : Nat} (hC : RepC ct A G ob σ M x) (hI : Inv B σ) (hlt : gSv σ < 16) {pf g : Nat → Int32} (hp2 : ∀ j, j < 10 → pf j = σ.2 2 j) {M' : Mem} (hold : ∀ a, a ≠ x → a ≠ A 6 (gSv σ) → a ≠ A 7 (gSv σ) → M' a = M a)
    (mx : M' x = some (xE A (sSave σ))) (m6 : M' (A 6 (gSv σ)) = some (sE A σ (gSv σ) (nI (gLast σ + 1)) (nI (gMade σ)) (nI (gSt σ)) none 0)) (m7 : M' (A 7 (gSv σ)) = some (.inl (ct 0, 8, .inl (va_cpy pf g 0 0 8)))) : RepC ct A G ob (sSave σ) M' x := by
  obtain ⟨hx0, hG, hO, ⟨⟨tf, a1, a2⟩, ⟨s9, a3, a4⟩, a5, ⟨uf, a6, a7⟩, a8⟩, hT, hS, hR⟩ := hC
  have g6 := hG.2.2.2.1 _ hlt
  have hs : ∀ a, G a ≠ 13 → G a ≠ 16 * gSv σ + 6 → G a ≠ 16 * gSv σ + 7 → M' a = M a := fun a h1 h2 h3 => hold a (fun e => h1 (by rw [e]; exact hG.1)) (fun e => h2 (by rw [e]; exact g6.1)) (fun e => h3 (by rw [e]; exact g6.2))
  have ev : gSv (sSave σ) = gSv σ + 1 := rfl
  have en : ∀ k, gNum (sSave σ) k = va_up (σ.1 7) (gSv σ) (gLast σ + 1) k := fun _ => rfl
  have ef : ∀ k, gFst (sSave σ) k = va_up (σ.1 8) (gSv σ) (gMade σ) k := fun _ => rfl
  have es : ∀ k, gSb (sSave σ) k = va_up (σ.1 10) (gSv σ) (gSt σ) k := fun _ => rfl
  have eh : ∀ q, gHad (sSave σ) q = va_cpy (σ.2 2) (σ.2 3) 0 (10 * gSv σ) 10 q := fun _ => rfl
  have owk : ∀ k c, k ≤ gSv σ → ownr (sSave σ) k c = ownr σ k c := fun k c hk => ownr_congr k c (fun j _ => rbx_save j) (fun _ _ _ _ _ => rfl) (fun j hj => by rw [en, va_up_ne _ _ (by omega)])
  have rbt : rbx σ (gSv σ) = gRows σ := by unfold rbx; rw [if_neg (Nat.lt_irrefl _)]
  have rbt1 : rbx σ (gSv σ + 1) = gRows σ := by unfold rbx; rw [if_neg (by omega)]
  have owt : ∀ c, ownr (sSave σ) (gSv (sSave σ)) c = ownr σ (gSv σ) c := by
    intro c
    rw [ev]
    simp only [ownr]
    rw [rbx_save, rbx_save, rbt, rbt1, show hasR (sSave σ) (gRows σ) (gRows σ) c = false by rw [Bool.eq_false_iff]; intro h; obtain ⟨r, h1, h2, -⟩ := hasR_iff.mp h; omega]
    exact owk _ c (Nat.le_refl _)
  refine ⟨mx, hG, hO, ⟨⟨tf, ?_, a2⟩, ⟨s9, ?_, a4⟩, a5.same (hs _ (by rw [hG.2.1 3 (by decide) (by decide)]; omega) (by rw [hG.2.1 3 (by decide) (by decide)]; omega) (by rw [hG.2.1 3 (by decide) (by decide)]; omega)), ⟨uf, ?_, a7⟩, fun k hk => ?_⟩, fun o' ho' => ?_, fun k hk => ?_, fun k r h1 h2 h3 => ?_⟩
  · rw [hs _ (by rw [hG.2.1 1 (by decide) (by decide)]; omega) (by rw [hG.2.1 1 (by decide) (by decide)]; omega) (by rw [hG.2.1 1 (by decide) (by decide)]; omega)]; exact a1
  · rw [hs _ (by rw [hG.2.1 2 (by decide) (by decide)]; omega) (by rw [hG.2.1 2 (by decide) (by decide)]; omega) (by rw [hG.2.1 2 (by decide) (by decide)]; omega)]; exact a3
  · rw [hs _ (by rw [hG.2.1 4 (by decide) (by decide)]; omega) (by rw [hG.2.1 4 (by decide) (by decide)]; omega) (by rw [hG.2.1 4 (by decide) (by decide)]; omega)]; exact a6
  · rw [hs _ (by rw [hG.2.2.1 k hk]; omega) (by rw [hG.2.2.1 k hk]; omega) (by rw [hG.2.2.1 k hk]; omega)]; exact a8 k hk
  · have t := hG.2.2.2.2.1 o' ho'
    exact (hT o' ho').mv (hs _ (by rw [t.1]; omega) (by rw [t.1]; omega) (by rw [t.1]; omega)) (hs _ (by rw [t.2.1]; omega) (by rw [t.2.1]; omega) (by rw [t.2.1]; omega)) (hs _ (by rw [t.2.2.1]; omega) (by rw [t.2.2.1]; omega) (by rw [t.2.2.1]; omega)) (hs _ (by rw [t.2.2.2]; omega) (by rw [t.2.2.2]; omega) (by rw [t.2.2.2]; omega)) rfl (fun _ _ => rfl) (fun _ _ => rfl) (fun i _ => (owt _).symm)
  · have t := hG.2.2.2.1 k hk
    by_cases e : k = gSv σ
    · subst e
      refine ⟨fun _ => ⟨?_, ⟨_, m7, fun j hj => ?_⟩⟩, fun h => absurd h (by rw [ev]; omega)⟩
      · rw [m6, en, ef, es, va_up_self, va_up_self, va_up_self, rbx_save, rbx_save, rbt, rbt1, Nat.sub_self]
        rw [show rowOf A (gRows σ) (gRows σ) = none by unfold rowOf; rw [if_neg (Nat.lt_irrefl _)]]
        rfl
      · show va_cpy pf g 0 0 8 j = gHad (sSave σ) (10 * gSv σ + j)
        have q1 : va_cpy pf g 0 0 8 j = pf j := by have := cpy_at (f := pf) (g := g) (sp := 0) (dp := 0) hj; simpa using this
        rw [q1, eh, cpy_at (by omega), hp2 j (by omega), Nat.zero_add]
    · have m6' := hs _ (by rw [t.1]; omega) (by rw [t.1]; omega) (by rw [t.1]; omega)
      have m7' := hs _ (by rw [t.2]; omega) (by rw [t.2]; omega) (by rw [t.2]; omega)
      refine ⟨fun h => ?_, fun h => ?_⟩
      · have hk' : k < gSv σ := by rw [ev] at h; omega
        obtain ⟨p1, p2⟩ := (hS k hk).1 hk'
        refine ⟨?_, (p2.same m7').to (fun j hj => ?_)⟩
        · rw [m6', p1, en, ef, es, va_up_ne _ _ e, va_up_ne _ _ e, va_up_ne _ _ e, rbx_save, rbx_save]
        · rw [eh, pk_cpy_out (by omega)]
      · obtain ⟨n, f, p, g9, p1, p2⟩ := (hS k hk).2 (by rw [ev] at h; omega)
        exact ⟨n, f, p, g9, by rw [m6', p1], by rw [m7', p2]⟩
  · rw [ev] at h1
    rw [rbx_save] at h2 h3
    by_cases e : k = gSv σ
    · subst e; omega
    · have t := hG.2.2.2.2.2 r (Nat.lt_of_lt_of_le h3 (rbx_le hI _))
      exact (hR k r (by omega) h2 h3).mv (hs _ (by rw [t]; omega) (by rw [t]; omega) (by rw [t]; omega)) rfl rfl (owk _ _ (by omega)) (rbx_save _)
set_option maxHeartbeats 4000000 in
set_option maxRecDepth 100000 in
theorem c_save (l : Launch) (hl : l.stackTraces = false) (base : Nat) (D : va_G) (ct : Nat → ClassId) (sa : Nat → Nat) {A : Nat → Nat → Nat} {G ob : Nat → Nat} {σ : Sg} {M : Mem} {x B : Nat} (hC : RepC ct A G ob σ M x) (hI : Inv B σ) (hB : B ≤ 600) :
    CT l yX3_save (.code yX3_save cX3_save 2 (some .int) :: WL) (rmK 7 5 32) base D ct sa M [.ref x] (PostC ct G M x (oSave σ)) (PxC nmU M (oSave σ)) := by
  refine CT.of hl (by decide) (Nat.le_of_ble_eq_true rfl) ?_
  intro p e s m below meth c C hr hx
  obtain ⟨hx0, hG, hO, hA, hT, hS, hR⟩ := id hC
  obtain ⟨sf9, hsf, hsf2⟩ := hA.2.1
  obtain ⟨pf, hp, hp2⟩ := hA.2.2.1
  obtain ⟨⟨i1, i2, i3, i4, i5, i6, i7, i8⟩, -⟩ := id hI
  refine V_aload_n C dX3_save_0 (by rfl) ?_
  refine V_get C (ci := 3) hx0 rfl wu_X3 4 (by decide) fl_X3_28 rfl (by rfl) dX3_save_1 ?_
  refine V_bipush C (nI 16) dX3_save_4 (by decide) ?_
  refine V_icmp_lt C 19 dX3_save_6 (by decide) (fun h6 => ?_) (fun h6 => ?_)
  · have hlt : gSv σ < 16 := (nI_ltI (by omega) (by decide)).mp h6
    obtain ⟨n9, f9, p9, g, hs6, hs7⟩ := (hS (gSv σ) hlt).2 (Nat.le_refl _)
    have g6 := hG.2.2.2.1 _ hlt
    have n6x : A 6 (gSv σ) ≠ x := ne_tag g6.1 hG.1 (by omega)
    have n7x : A 7 (gSv σ) ≠ x := ne_tag g6.2 hG.1 (by omega)
    have n67 : A 6 (gSv σ) ≠ A 7 (gSv σ) := ne_tag g6.1 g6.2 (by omega)
    have n2x : A 2 0 ≠ x := ne_tag (hG.2.1 2 (by decide) (by decide)) hG.1 (by decide)
    have n3x : A 3 0 ≠ x := ne_tag (hG.2.1 3 (by decide) (by decide)) hG.1 (by decide)
    have n36 : A 3 0 ≠ A 6 (gSv σ) := ne_tag (hG.2.1 3 (by decide) (by decide)) g6.1 (by omega)
    refine V_aload_n C dX3_save_19 (by rfl) ?_
    refine V_dup C dX3_save_20 rfl ?_
    refine V_get C (ci := 3) hx0 rfl wu_X3 5 (by decide) fl_X3_31 rfl (by rfl) dX3_save_21 ?_
    refine V_iconst C (1) dX3_save_24 (by decide) ?_
    refine V_iadd C dX3_save_25 ?_
    refine V_top (nI_1 _) ?_
    refine V_put C (ci := 3) hx0 rfl wu_X3 5 (by decide) fl_X3_31 rfl tyX3 tyX3_ok nmX3 rfl (by rfl) (by rfl) (Nat.le_of_ble_eq_true rfl) dX3_save_26 ?_
    refine V_aload_n C dX3_save_29 (by rfl) ?_
    refine V_get C (ci := 3) (mput_eq _ _ _) rfl wu_X3 3 (by decide) fl_X3_24 rfl (by rfl) dX3_save_30 ?_
    refine V_aload_n C dX3_save_33 (by rfl) ?_
    refine V_get C (ci := 3) (mput_eq _ _ _) rfl wu_X3 4 (by decide) fl_X3_28 rfl (by rfl) dX3_save_34 ?_
    refine N_aldS C ((mput_ne n2x).trans hsf) hlt (by decide) (hsf2 _ hlt) dX3_save_37 ?_
    refine V_astore_n C dX3_save_38 (by decide) ?_
    refine V_aload_n C dX3_save_39 (by rfl) ?_
    refine V_aload_n C dX3_save_40 (by rfl) ?_
    refine V_get C (ci := 3) (mput_eq _ _ _) rfl wu_X3 5 (by decide) fl_X3_31 rfl (by rfl) dX3_save_41 ?_
    refine V_put C (ci := 1) ((mput_ne n6x).trans hs6) rfl wu_X1 0 (by decide) fl_X3_97 rfl tyX1 tyX1_ok nmX1 rfl (by rfl) (by rfl) (Nat.le_of_ble_eq_true rfl) dX3_save_44 ?_
    refine V_aload_n C dX3_save_47 (by rfl) ?_
    refine V_aload_n C dX3_save_48 (by rfl) ?_
    refine V_get C (ci := 3) ((mput_ne n6x.symm).trans (mput_eq _ _ _)) rfl wu_X3 2 (by decide) fl_X3_19 rfl (by rfl) dX3_save_49 ?_
    refine V_put C (ci := 1) (mput_eq _ _ _) rfl wu_X1 1 (by decide) fl_X3_98 rfl tyX1 tyX1_ok nmX1 rfl (by rfl) (by rfl) (Nat.le_of_ble_eq_true rfl) dX3_save_52 ?_
    refine V_aload_n C dX3_save_55 (by rfl) ?_
    refine V_aload_n C dX3_save_56 (by rfl) ?_
    refine V_get C (ci := 3) ((mput_ne n6x.symm).trans ((mput_ne n6x.symm).trans (mput_eq _ _ _))) rfl wu_X3 9 (by decide) fl_X3_46 rfl (by rfl) dX3_save_57 ?_
    refine V_put C (ci := 1) (mput_eq _ _ _) rfl wu_X1 2 (by decide) fl_X3_101 rfl tyX1 tyX1_ok nmX1 rfl (by rfl) (by rfl) (Nat.le_of_ble_eq_true rfl) dX3_save_60 ?_
    refine V_aload_n C dX3_save_63 (by rfl) ?_
    refine V_get C (ci := 3) ((mput_ne n6x.symm).trans ((mput_ne n6x.symm).trans ((mput_ne n6x.symm).trans (mput_eq _ _ _)))) rfl wu_X3 7 (by decide) fl_X3_37 rfl (by rfl) dX3_save_64 ?_
    refine V_iconst C (nI 0) dX3_save_67 (by decide) ?_
    refine V_aload_n C dX3_save_68 (by rfl) ?_
    refine V_get C (ci := 1) (mput_eq _ _ _) rfl wu_X1 3 (by decide) fl_X3_104 rfl (by rfl) dX3_save_69 ?_
    refine V_iconst C (nI 0) dX3_save_72 (by decide) ?_
    refine V_bipush C (nI 8) dX3_save_73 (by decide) ?_
    refine N_copy C ((mput_ne n36).trans ((mput_ne n36).trans ((mput_ne n36).trans ((mput_ne n3x).trans hp)))) ((mput_ne n67.symm).trans ((mput_ne n67.symm).trans ((mput_ne n67.symm).trans ((mput_ne n7x).trans hs7)))) ml_X3_105 (by decide) (by decide) (by decide) (by decide) (by decide) (by decide) dX3_save_75 ?_
    refine V_aload_n C dX3_save_78 (by rfl) ?_
    refine V_dup C dX3_save_79 rfl ?_
    refine V_get C (ci := 3) ((mput_ne n7x.symm).trans ((mput_ne n6x.symm).trans ((mput_ne n6x.symm).trans ((mput_ne n6x.symm).trans (mput_eq _ _ _))))) rfl wu_X3 4 (by decide) fl_X3_28 rfl (by rfl) dX3_save_80 ?_
    refine V_iconst C (1) dX3_save_83 (by decide) ?_
    refine V_iadd C dX3_save_84 ?_
    refine V_top (nI_1 _) ?_
    refine V_put C (ci := 3) ((mput_ne n7x.symm).trans ((mput_ne n6x.symm).trans ((mput_ne n6x.symm).trans ((mput_ne n6x.symm).trans (mput_eq _ _ _))))) rfl wu_X3 4 (by decide) fl_X3_28 rfl tyX3 tyX3_ok nmX3 rfl (by rfl) (by rfl) (Nat.le_of_ble_eq_true rfl) dX3_save_85 ?_
    refine V_aload_n C dX3_save_88 (by rfl) ?_
    refine V_aload_n C dX3_save_89 (by rfl) ?_
    refine V_get C (ci := 3) (mput_eq _ _ _) rfl wu_X3 6 (by decide) fl_X3_34 rfl (by rfl) dX3_save_90 ?_
    refine V_aload_n C dX3_save_93 (by rfl) ?_
    refine V_get C (ci := 3) (mput_eq _ _ _) rfl wu_X3 4 (by decide) fl_X3_28 rfl (by rfl) dX3_save_94 ?_
    refine V_mmax C ml_X3_111 st_max ini_Math co_max (by decide) (Nat.le_of_ble_eq_true rfl) (by decide) (by decide) dX3_save_97 ?_
    refine V_top (nI_max (by omega) (by omega)) ?_
    refine V_put C (ci := 3) (mput_eq _ _ _) rfl wu_X3 6 (by decide) fl_X3_34 rfl tyX3 tyX3_ok nmX3 rfl (by rfl) (by rfl) (Nat.le_of_ble_eq_true rfl) dX3_save_100 ?_
    refine V_aload_n C dX3_save_103 (by rfl) ?_
    refine V_get C (ci := 3) (mput_eq _ _ _) rfl wu_X3 5 (by decide) fl_X3_31 rfl (by rfl) dX3_save_104 ?_
    exact V_iret C hr (by decide) (by decide) dX3_save_107 (by
      rw [show oSave σ = (0, nI (gLast σ + 1), sSave σ) by unfold oSave; rw [if_neg (by omega)]; rfl]
      refine ⟨rfl, rfl, A, G, ob, saveC hC hI hlt hp2 (g := g) (fun a h1 h2 h3 => ?_) (mput_eq _ _ _) ?_ ?_, FrC.of (fun a ha => ?_)⟩
      · rw [mput_ne h1, mput_ne h1, mput_ne h3, mput_ne h2, mput_ne h2, mput_ne h2, mput_ne h1]
      · rw [mput_ne n6x, mput_ne n6x, mput_ne n67, mput_eq]; rfl
      · rw [mput_ne n7x, mput_ne n7x, mput_eq]
      · have h1 := ne_tag ha hG.1 (by decide)
        have h2 := ne_tag ha g6.1 (by omega)
        have h3 := ne_tag ha g6.2 (by omega)
        rw [mput_ne h1, mput_ne h1, mput_ne h3, mput_ne h2, mput_ne h2, mput_ne h2, mput_ne h1])
  · exact V_throw C hx rfl (E := "java/lang/UnsupportedOperationException") (by decide +kernel) cl_X3_50 ini_EU (List.mem_of_getElem? (i := 5) rfl) ea_U eg_U dX3_save_9 dX3_save_12 dX3_save_13 dX3_save_15 dX3_save_18 (by decide) (by decide) (by decide) (by decide) (by decide) (by decide) (by rw [show oSave σ = (1, 0, σ) by unfold oSave; rw [if_pos (by rcases Nat.lt_or_ge (gSv σ) 16 with h | h; exact absurd ((nI_ltI (by omega) (by decide)).mpr h) h6; omega)]]; exact ⟨Nat.zero_lt_succ _, rfl, rfl⟩)
end
section
/-! placeOfLiving, keptRefersToNewer, dropLocalsNewerThan -/
set_option maxHeartbeats 4000000 in
set_option maxRecDepth 100000 in
theorem c_placeOfLiving (l : Launch) (hl : l.stackTraces = false) (base : Nat) (D : va_G) (ct : Nat → ClassId) (sa : Nat → Nat) {A : Nat → Nat → Nat} {G ob : Nat → Nat} {σ : Sg} {M : Mem} {x B : Nat} (hC : RepC ct A G ob σ M x) (hI : Inv B σ) (hB : B ≤ 600) (n : Int32) :
    CT l yX3_placeOfLiving (.code yX3_placeOfLiving cX3_placeOfLiving 3 (some .int) :: WL) (rmK 1 0 0) base D ct sa M [.ref x, .int n] (fun v9 M' => (∃ z, v9 = some (.int z) ∧ ((∃ k, k < gSv σ ∧ nI (gNum σ k) = n ∧ z = nI k) ∨ ((∀ k, k < gSv σ → nI (gNum σ k) ≠ n) ∧ z = -1))) ∧ M' = M) noX := by
  refine CT.of hl (by decide) (Nat.le_of_ble_eq_true rfl) ?_
  intro p e s m below meth c C hr hx
  obtain ⟨hx0, hG, hO, hA, hT, hS, hR⟩ := id hC
  obtain ⟨sf9, hsf, hsf2⟩ := hA.2.1
  have i5 := hI.1.2.2.2.2.1
  have loop : ∀ t : Nat, t ≤ gSv σ → ∀ z : Int32, (t = 0 → z < 0) → (0 < t → z = nI (t - 1)) → (∀ i, t ≤ i → i < gSv σ → nI (gNum σ i) ≠ n) → VV p l e (rmK 1 0 0) s m ([.ref x, .int n] : List Value).toArray below meth c 3 base D (QB base D (fun v9 M' => (∃ z, v9 = some (.int z) ∧ ((∃ k, k < gSv σ ∧ nI (gNum σ k) = n ∧ z = nI k) ∨ ((∀ k, k < gSv σ → nI (gNum σ k) ≠ n) ∧ z = -1))) ∧ M' = M) noX below ([.ref x, .int n] : List Value).toArray s 0 0) M 0 0 7 [(0, .ref x), (1, .int n), (2, .int z)] [] := by
    intro t
    induction t with
    | zero =>
      intro _ z hz _ hq
      have nz : ¬ ¬ z < 0 := fun h => h (hz rfl)
      refine V_iload_n C dX3_placeOfLiving_7 (by rfl) ?_
      refine V_if_lt C 32 dX3_placeOfLiving_8 (by decide) (fun h_8 => ?_) (fun h_8 => absurd h_8 (nz))
      refine V_iconst C (-1) dX3_placeOfLiving_32 (by decide) ?_
      exact V_iret C hr (by decide) (by decide) dX3_placeOfLiving_33 ⟨⟨_, rfl, Or.inr ⟨fun k hk => hq k (Nat.zero_le _) hk, rfl⟩⟩, rfl⟩
    | succ t ih =>
      intro ht z _ hz hq
      have hz := hz (by omega)
      simp only [Nat.add_sub_cancel] at hz
      subst hz
      refine V_iload_n C dX3_placeOfLiving_7 (by rfl) ?_
      refine V_if_lt C 32 dX3_placeOfLiving_8 (by decide) (fun h_8 => absurd h_8 (nI_pos (by omega))) (fun h_8 => ?_)
      refine V_aload_n C dX3_placeOfLiving_11 (by rfl) ?_
      refine V_get C (ci := 3) hx0 rfl wu_X3 3 (by decide) fl_X3_24 rfl (by rfl) dX3_placeOfLiving_12 ?_
      refine V_iload_n C dX3_placeOfLiving_15 (by rfl) ?_
      refine N_aldS C hsf (by omega) (by decide) (hsf2 t (by omega)) dX3_placeOfLiving_16 ?_
      refine V_get C (ci := 1) ((hS t (by omega)).1 (by omega)).1 rfl wu_X1 0 (by decide) fl_X3_97 rfl (by rfl) dX3_placeOfLiving_17 ?_
      refine V_iload_n C dX3_placeOfLiving_20 (by rfl) ?_
      refine V_icmp_ne C 26 dX3_placeOfLiving_21 (by decide) (fun h21 => ?_) (fun h21 => ?_)
      · refine V_incm C dX3_placeOfLiving_26 (by rfl) (by decide) ?_
        refine V_goto C 7 dX3_placeOfLiving_29 (by decide) ?_
        refine VV.loc [(0, .ref x), (1, .int n), (2, .int (nI t + (-1)))] ⟨rfl, rfl, rfl, trivial⟩ ?_
        exact ih (by omega) _ (fun h => by subst h; decide) (fun h => by rw [sb_m1 h]) (fun i h1 h2 => by
          rcases Nat.lt_or_ge t i with h | h
          · exact hq i h h2
          · have : i = t := by omega
            subst this; exact h21)
      · refine V_iload_n C dX3_placeOfLiving_24 (by rfl) ?_
        exact V_iret C hr (by decide) (by decide) dX3_placeOfLiving_25 ⟨⟨_, rfl, Or.inl ⟨t, by omega, h21, rfl⟩⟩, rfl⟩
  refine V_aload_n C dX3_placeOfLiving_0 (by rfl) ?_
  refine V_get C (ci := 3) hx0 rfl wu_X3 4 (by decide) fl_X3_28 rfl (by rfl) dX3_placeOfLiving_1 ?_
  refine V_iconst C (1) dX3_placeOfLiving_4 (by decide) ?_
  refine V_isub C dX3_placeOfLiving_5 ?_
  refine V_istore_n C dX3_placeOfLiving_6 (by decide) ?_
  refine VV.loc [(0, .ref x), (1, .int n), (2, .int (nI (gSv σ) - 1))] ⟨rfl, rfl, rfl, trivial⟩ ?_
  exact loop (gSv σ) (Nat.le_refl _) _ (fun h => by rw [h]; decide) (fun h => pk_sub (b := 1) h) (fun i h1 h2 => absurd h2 (by omega))
set_option maxHeartbeats 4000000 in
set_option maxRecDepth 100000 in
theorem c_keptRefersToNewer (l : Launch) (hl : l.stackTraces = false) (base : Nat) (D : va_G) (ct : Nat → ClassId) (sa : Nat → Nat) {A : Nat → Nat → Nat} {G ob : Nat → Nat} {σ : Sg} {M : Mem} {x B : Nat} (hC : RepC ct A G ob σ M x) (hI : Inv B σ) (hB : B ≤ 600) {k : Nat} (hk : k < gSv σ) :
    CT l yX3_keptRefersToNewer (.code yX3_keptRefersToNewer cX3_keptRefersToNewer 4 (some .boolean) :: WL) (rmK 3 0 0) base D ct sa M [.ref x, .ref (A 6 k)] (fun (v9 : Option Value) (M' : Mem) => v9 = some (.int (b2i (isNw σ (gPa σ 8) (gFst σ k) || isNw σ (gPa σ 9) (gFst σ k)))) ∧ M' = M) noX := by
  refine CT.of hl (by decide) (Nat.le_of_ble_eq_true rfl) ?_
  intro p e s m below meth c C hr hx
  obtain ⟨hx0, hG, hO, hA, hT, hS, hR⟩ := id hC
  obtain ⟨pf, hp, hp2⟩ := hA.2.2.1
  have i5 := hI.1.2.2.2.2.1
  have hmd := Nat.le_trans hI.1.1 hB
  have hfm := hI.2.2.1.2.2.1 k hk
  have hs6 := ((hS k (by omega)).1 hk).1
  have step : ∀ w : Nat, 8 ≤ w → w < 10 → (isNw σ (gPa σ w) (gFst σ k) = true → (fun (v9 : Option Value) (M' : Mem) => v9 = some (.int (b2i (isNw σ (gPa σ 8) (gFst σ k) || isNw σ (gPa σ 9) (gFst σ k)))) ∧ M' = M) (some (.int 1)) M) → (isNw σ (gPa σ w) (gFst σ k) = false → VV p l e (rmK 3 0 0) s m ([.ref x, .ref (A 6 k)] : List Value).toArray below meth c 4 base D (QB base D (fun (v9 : Option Value) (M' : Mem) => v9 = some (.int (b2i (isNw σ (gPa σ 8) (gFst σ k) || isNw σ (gPa σ 9) (gFst σ k)))) ∧ M' = M) noX below ([.ref x, .ref (A 6 k)] : List Value).toArray s 0 0) M 0 0 41 [(0, .ref x), (1, .ref (A 6 k)), (2, .int (nI w))] []) → VV p l e (rmK 3 0 0) s m ([.ref x, .ref (A 6 k)] : List Value).toArray below meth c 4 base D (QB base D (fun (v9 : Option Value) (M' : Mem) => v9 = some (.int (b2i (isNw σ (gPa σ 8) (gFst σ k) || isNw σ (gPa σ 9) (gFst σ k)))) ∧ M' = M) noX below ([.ref x, .ref (A 6 k)] : List Value).toArray s 0 0) M 0 0 9 [(0, .ref x), (1, .ref (A 6 k)), (2, .int (nI w))] [] := by
    intro w hw1 hw2 kt kf
    have e9 : pf w = gPa σ w := hp2 w hw2
    have hvv : isV σ (pf w) = true := by
      rw [e9]
      rcases (show w = 8 ∨ w = 9 by omega) with rfl | rfl
      · exact hI.2.2.2.2.1.1.1
      · exact hI.2.2.2.2.1.1.2
    rw [← e9] at kt kf
    by_cases hv0 : 0 ≤ pf w
    · have hf : rft A σ (pf w) = none := by unfold rft; rw [if_pos hv0]
      have hnw : isNw σ (pf w) (gFst σ k) = false := by simp only [isNw, decide_eq_false_iff_not]; rintro ⟨h, _⟩; exact Int32.not_lt.mpr hv0 h
      refine V_aload_n C dX3_keptRefersToNewer_9 (by rfl) ?_
      refine V_aload_n C dX3_keptRefersToNewer_10 (by rfl) ?_
      refine V_get C (ci := 3) hx0 rfl wu_X3 7 (by decide) fl_X3_37 rfl (by rfl) dX3_keptRefersToNewer_11 ?_
      refine V_iload_n C dX3_keptRefersToNewer_14 (by rfl) ?_
      refine N_iald C hp hw2 (by decide) dX3_keptRefersToNewer_15 ?_
      refine V_callV C hx (As := [.int (pf w)]) (c_referredTo l hl base D ct sa hC hI hB (pf w)) w_X3_160 hx0 rfl rfl (by decide) (Nat.le_of_ble_eq_true rfl) ⟨by decide, by decide⟩ dX3_keptRefersToNewer_16 (by decide) (by decide) (fun _ _ h => h.elim) (fun v9 M1 hv => ?_)
      obtain ⟨rfl, rfl⟩ := hv
      refine VV.eqv (st' := [.null]) rfl (by rw [hf]; rfl) ?_
      refine V_astore_nN C dX3_keptRefersToNewer_19 (by decide) ?_
      refine V_aload_nN C dX3_keptRefersToNewer_20 (by rfl) ?_
      refine V_ifnullN C 41 dX3_keptRefersToNewer_21 (by decide) ?_
      refine VV.loc [(0, .ref x), (1, .ref (A 6 k)), (2, .int (nI w))] ⟨rfl, rfl, rfl, trivial⟩ ?_
      exact kf hnw
    · have hok : isO σ (-1 - pf w) = true := by simpa [isV, hv0] using hvv
      have hf : rft A σ (pf w) = some (A 8 (rfOf (pf w))) := by unfold rft; rw [if_neg hv0]; simp [fnd, hok, rfOf]
      obtain ⟨o9, e1, h1, ht, e2⟩ := isO_of hok hmd
      have e3 : rfOf (pf w) = o9 := e2
      rw [← e3] at ht h1
      have ht0 := (hT _ ht).1
      refine V_aload_n C dX3_keptRefersToNewer_9 (by rfl) ?_
      refine V_aload_n C dX3_keptRefersToNewer_10 (by rfl) ?_
      refine V_get C (ci := 3) hx0 rfl wu_X3 7 (by decide) fl_X3_37 rfl (by rfl) dX3_keptRefersToNewer_11 ?_
      refine V_iload_n C dX3_keptRefersToNewer_14 (by rfl) ?_
      refine N_iald C hp hw2 (by decide) dX3_keptRefersToNewer_15 ?_
      refine V_callV C hx (As := [.int (pf w)]) (c_referredTo l hl base D ct sa hC hI hB (pf w)) w_X3_160 hx0 rfl rfl (by decide) (Nat.le_of_ble_eq_true rfl) ⟨by decide, by decide⟩ dX3_keptRefersToNewer_16 (by decide) (by decide) (fun _ _ h => h.elim) (fun v9 M1 hv => ?_)
      obtain ⟨rfl, rfl⟩ := hv
      refine VV.eqv (st' := [.ref (A 8 (rfOf (pf w)))]) rfl (by rw [hf]; rfl) ?_
      refine V_astore_n C dX3_keptRefersToNewer_19 (by decide) ?_
      refine V_aload_n C dX3_keptRefersToNewer_20 (by rfl) ?_
      refine V_ifnull C dX3_keptRefersToNewer_21 ?_
      refine V_aload_n C dX3_keptRefersToNewer_24 (by rfl) ?_
      refine V_get C (ci := 2) ht0 rfl wu_X2 1 (by decide) fl_X3_75 rfl (by rfl) dX3_keptRefersToNewer_25 ?_
      refine V_if_ne C 41 dX3_keptRefersToNewer_28 (by decide) (fun h28 => ?_) (fun h28 => ?_)
      · refine VV.loc [(0, .ref x), (1, .ref (A 6 k)), (2, .int (nI w))] ⟨rfl, rfl, rfl, trivial⟩ ?_
        exact kf (by simp only [isNw, decide_eq_false_iff_not]; rintro ⟨_, _, h⟩; rw [h] at h28; exact h28 rfl)
      · refine V_aload_n C dX3_keptRefersToNewer_31 (by rfl) ?_
        refine V_aload_n C dX3_keptRefersToNewer_32 (by rfl) ?_
        refine V_callV C hx (As := [.ref (A 6 k)]) (c_isNewerThan l hl base D ct sa (by omega) (by omega) ht0 hs6) w_X3_146 ht0 rfl rfl (by decide) (Nat.le_of_ble_eq_true rfl) ⟨by decide, by decide⟩ dX3_keptRefersToNewer_33 (by decide) (by decide) (fun _ _ h => h.elim) (fun v9 M2 hv => ?_)
        obtain ⟨rfl, rfl⟩ := hv
        refine VV.eqv (st' := [.int (b2i (decide (gFst σ k ≤ rfOf (pf w))))]) rfl rfl ?_
        have hg0 : gGlob σ (rfOf (pf w)) = 0 := by
          have := hI.2.1.2.1 (rfOf (pf w))
          rcases Nat.eq_zero_or_pos (gGlob σ (rfOf (pf w))) with h | h
          · exact h
          · rw [show gGlob σ (rfOf (pf w)) = 1 by omega] at h28; exact absurd h28 (by decide)
        refine V_if_eq C 41 dX3_keptRefersToNewer_36 (by decide) (fun h36 => ?_) (fun h36 => ?_)
        · refine VV.loc [(0, .ref x), (1, .ref (A 6 k)), (2, .int (nI w))] ⟨rfl, rfl, rfl, trivial⟩ ?_
          exact kf (by simp only [isNw, decide_eq_false_iff_not]; rintro ⟨_, h, _⟩; rw [decide_eq_true h] at h36; exact absurd h36 (by decide))
        · refine V_iconst C (1) dX3_keptRefersToNewer_39 (by decide) ?_
          exact V_zret C hr (by rfl) (by decide) (by decide) dX3_keptRefersToNewer_40 (kt (by simp only [isNw, decide_eq_true_eq]; refine ⟨Int32.not_le.mp hv0, ?_, hg0⟩; rcases Nat.lt_or_ge (rfOf (pf w)) (gFst σ k) with h | h; rw [decide_eq_false (by omega)] at h36; exact absurd rfl h36; exact h))
  refine V_bipush C (nI 8) dX3_keptRefersToNewer_0 (by decide) ?_
  refine V_istore_n C dX3_keptRefersToNewer_2 (by decide) ?_
  refine V_iload_n C dX3_keptRefersToNewer_3 (by rfl) ?_
  refine V_bipush C (nI 10) dX3_keptRefersToNewer_4 (by decide) ?_
  refine V_icmp_ge C 47 dX3_keptRefersToNewer_6 (by decide) (fun h_6 => absurd h_6 (by decide)) (fun h_6 => ?_)
  refine VV.loc [(0, .ref x), (1, .ref (A 6 k)), (2, .int (nI 8))] ⟨rfl, rfl, rfl, trivial⟩ ?_
  refine step 8 (by decide) (by decide) (fun h => ⟨by rw [h]; rfl, rfl⟩) (fun h8 => ?_)
  refine V_inc1 C dX3_keptRefersToNewer_41 (by rfl) (by decide) ?_
  refine V_goto C 3 dX3_keptRefersToNewer_44 (by decide) ?_
  refine VV.loc [(0, .ref x), (1, .ref (A 6 k)), (2, .int (nI 9))] ⟨rfl, rfl, rfl, trivial⟩ ?_
  refine V_iload_n C dX3_keptRefersToNewer_3 (by rfl) ?_
  refine V_bipush C (nI 10) dX3_keptRefersToNewer_4 (by decide) ?_
  refine V_icmp_ge C 47 dX3_keptRefersToNewer_6 (by decide) (fun h_6 => absurd h_6 (by decide)) (fun h_6 => ?_)
  refine VV.loc [(0, .ref x), (1, .ref (A 6 k)), (2, .int (nI 9))] ⟨rfl, rfl, rfl, trivial⟩ ?_
  refine step 9 (by decide) (by decide) (fun h => ⟨by rw [h8, h]; rfl, rfl⟩) (fun h9 => ?_)
  refine V_inc1 C dX3_keptRefersToNewer_41 (by rfl) (by decide) ?_
  refine V_goto C 3 dX3_keptRefersToNewer_44 (by decide) ?_
  refine VV.loc [(0, .ref x), (1, .ref (A 6 k)), (2, .int (nI 10))] ⟨rfl, rfl, rfl, trivial⟩ ?_
  refine V_iload_n C dX3_keptRefersToNewer_3 (by rfl) ?_
  refine V_bipush C (nI 10) dX3_keptRefersToNewer_4 (by decide) ?_
  refine V_icmp_ge C 47 dX3_keptRefersToNewer_6 (by decide) (fun h_6 => ?_) (fun h_6 => absurd h_6 (by decide))
  refine V_iconst C (0) dX3_keptRefersToNewer_47 (by decide) ?_
  exact V_zret C hr (by rfl) (by decide) (by decide) dX3_keptRefersToNewer_48 ⟨by rw [h8, h9]; rfl, rfl⟩
end
section
/-! dropLocalsNewerThan -/
theorem mput_mput (M : Mem) (a : Nat) (e e' : va_E) : mput (mput M a e) a e' = mput M a e' := by
  funext b; unfold mput; split <;> rfl
theorem mput_id {M : Mem} {a : Nat} {e : va_E} (h : M a = some e) : mput M a e = M := by
  funext b; unfold mput; split
  · subst_vars; exact h.symm
  · rfl
def stay (σ : Sg) (f o : Nat) : Bool := !decide (gGlob σ o = 0 ∧ f ≤ o)
/-- how many of the first p objects go -/
def gnE (σ : Sg) (ob : Nat → Nat) (f : Nat) : Nat → Nat
  | 0 => 0
  | p + 1 => gnE σ ob f p + (if stay σ f (ob p) then 0 else 1)
/-- the loop's picture: p seen, c stay -/
def LI (A : Nat → Nat → Nat) (σ : Sg) (ob : Nat → Nat) (f p c : Nat) (tf' : Nat → Option Nat) (ob' : Nat → Nat) : Prop :=
  c + gnE σ ob f p = p ∧ (∀ j, j < c → tf' j = some (A 8 (ob' j))) ∧ (∀ j, p ≤ j → j < gAlive σ → tf' j = some (A 8 (ob j))) ∧ (∀ j, j < c → ∃ i, i < p ∧ ob' j = ob i ∧ stay σ f (ob i) = true) ∧ (∀ i j, i < j → j < c → ob' i < ob' j) ∧ (∀ i, i < p → stay σ f (ob i) = true → ∃ j, j < c ∧ ob' j = ob i)
theorem LI.skip {A : Nat → Nat → Nat} {σ : Sg} {ob : Nat → Nat} {f p c : Nat} {tf' : Nat → Option Nat} {ob' : Nat → Nat} (h : LI A σ ob f p c tf' ob') (hs : stay σ f (ob p) = false) : LI A σ ob f (p + 1) c tf' ob' := by
  obtain ⟨h1, h2, h3, h4, h5, h6⟩ := h
  refine ⟨by simp only [gnE, hs]; simp; omega, h2, fun j g1 g2 => h3 j (by omega) g2, fun j hj => ?_, h5, fun i hi g => ?_⟩
  · obtain ⟨i, g1, g2⟩ := h4 j hj; exact ⟨i, by omega, g2⟩
  · rcases Nat.lt_or_ge i p with q | q
    · exact h6 i q g
    · rw [show i = p by omega, hs] at g; cases g
theorem LI.keep {A : Nat → Nat → Nat} {σ : Sg} {ob : Nat → Nat} {f p c : Nat} {tf' : Nat → Option Nat} {ob' : Nat → Nat} (hO : ∀ i j, i < j → j < gAlive σ → ob i < ob j) (hp : p < gAlive σ) (h : LI A σ ob f p c tf' ob') (hs : stay σ f (ob p) = true) : LI A σ ob f (p + 1) (c + 1) (va_up tf' c (some (A 8 (ob p)))) (va_up ob' c (ob p)) := by
  obtain ⟨h1, h2, h3, h4, h5, h6⟩ := h
  refine ⟨by simp only [gnE, hs]; simp; omega, fun j hj => ?_, fun j g1 g2 => ?_, fun j hj => ?_, fun i j hij hj => ?_, fun i hi g => ?_⟩
  · by_cases e : j = c
    · subst e; rw [va_up_self, va_up_self]
    · rw [va_up_ne _ _ e, va_up_ne _ _ e]; exact h2 j (by omega)
  · rw [va_up_ne _ _ (by omega)]; exact h3 j (by omega) g2
  · by_cases e : j = c
    · subst e; exact ⟨p, by omega, va_up_self _ _ _, hs⟩
    · rw [va_up_ne _ _ e]; obtain ⟨i, g1, g2⟩ := h4 j (by omega); exact ⟨i, by omega, g2⟩
  · rw [va_up_ne _ _ (show i ≠ c by omega)]
    by_cases e : j = c
    · subst e; rw [va_up_self]; obtain ⟨i', g1, g2, -⟩ := h4 i hij; rw [g2]; exact hO i' p g1 hp
    · rw [va_up_ne _ _ e]; exact h5 i j hij (by omega)
  · rcases Nat.lt_or_ge i p with q | q
    · obtain ⟨j, g1, g2⟩ := h6 i q g; exact ⟨j, by omega, by rw [va_up_ne _ _ (by omega)]; exact g2⟩
    · rw [show i = p by omega]; exact ⟨c, by omega, va_up_self _ _ _⟩
set_option maxHeartbeats 4000000 in
set_option maxRecDepth 100000 in
theorem c_drop (l : Launch) (hl : l.stackTraces = false) (base : Nat) (D : va_G) (ct : Nat → ClassId) (sa : Nat → Nat) {A : Nat → Nat → Nat} {σ : Sg} {ob : Nat → Nat} {M : Mem} {x q f : Nat} {tf : Nat → Option Nat} {y1 y3 y4 y5 y6 : Value} (hx0 : M x = some (xE A σ)) (htf : M (A 1 0) = some (.inl (ct 4, 200, .inr (.inr (.inr (.inr tf)))))) (htf2 : ∀ j, j < gAlive σ → tf j = some (A 8 (ob j))) (hTh : ∀ j, j < gAlive σ → M (A 8 (ob j)) = some (tE A σ (ob j))) (hs : M q = some (.inr (1, [y1, .int (nI f), y3, y4, y5, y6]))) (hO : ∀ i j, i < j → j < gAlive σ → ob i < ob j) (hob : ∀ j, j < gAlive σ → ob j < 600) (hal : gAlive σ ≤ 200) (hf : f ≤ 600) (hgl : ∀ o, gGlob σ o ≤ 1) (nx : x ≠ A 1 0) :
    CT l yX3_dropLocalsNewerThan (.code yX3_dropLocalsNewerThan cX3_dropLocalsNewerThan 5 none :: WL) (rmK 2 0 0) base D ct sa M [.ref x, .ref q] (fun (v9 : Option Value) (M' : Mem) => v9 = none ∧ ∃ c tf' ob', LI A σ ob f (gAlive σ) c tf' ob' ∧ M' = mput (mput M (A 1 0) (.inl (ct 4, 200, .inr (.inr (.inr (.inr tf')))))) x (.inr (3, [.ref (A 1 0), .int (nI c), .int (nI (gMade σ)), .ref (A 2 0), .int (nI (gSv σ)), .int (nI (gLast σ)), .int (nI (gDeep σ)), .ref (A 3 0), .ref (A 4 0), .int (nI (gSt σ))]))) noX := by
  refine CT.of hl (by decide) (Nat.le_of_ble_eq_true rfl) ?_
  intro p e s m below meth c C hr hx
  have nq : q ≠ A 1 0 := fun e => by rw [e, htf] at hs; cases hs
  have nT : ∀ j, j < gAlive σ → A 8 (ob j) ≠ A 1 0 := fun j hj e => by have := hTh j hj; rw [e, htf] at this; cases this
  have loop : ∀ (d t k9 : Nat) (tf' : Nat → Option Nat) (ob' : Nat → Nat), gAlive σ ≤ t + d → t ≤ gAlive σ → LI A σ ob f t k9 tf' ob' → VV p l e (rmK 2 0 0) s m ([.ref x, .ref q] : List Value).toArray below meth c 5 base D (QB base D (fun (v9 : Option Value) (M' : Mem) => v9 = none ∧ ∃ c tf' ob', LI A σ ob f (gAlive σ) c tf' ob' ∧ M' = mput (mput M (A 1 0) (.inl (ct 4, 200, .inr (.inr (.inr (.inr tf')))))) x (.inr (3, [.ref (A 1 0), .int (nI c), .int (nI (gMade σ)), .ref (A 2 0), .int (nI (gSv σ)), .int (nI (gLast σ)), .int (nI (gDeep σ)), .ref (A 3 0), .ref (A 4 0), .int (nI (gSt σ))]))) noX below ([.ref x, .ref q] : List Value).toArray s 0 0) (mput M (A 1 0) (.inl (ct 4, 200, .inr (.inr (.inr (.inr tf')))))) 0 0 4 [(0, .ref x), (1, .ref q), (2, .int (nI k9)), (3, .int (nI t))] [] := by
    intro d
    induction d with
    | zero =>
      intro t k9 tf' ob' h1 h2 hL
      have htt : t = gAlive σ := by omega
      have hx1 : (mput M (A 1 0) (.inl (ct 4, 200, .inr (.inr (.inr (.inr tf')))))) x = some (xE A σ) := (mput_ne nx).trans hx0
      refine V_iload_n C dX3_dropLocalsNewerThan_4 (by rfl) ?_
      refine V_aload_n C dX3_dropLocalsNewerThan_5 (by rfl) ?_
      refine V_get C (ci := 3) hx1 rfl wu_X3 1 (by decide) fl_X3_15 rfl (by rfl) dX3_dropLocalsNewerThan_6 ?_
      refine V_icmp_ge C 54 dX3_dropLocalsNewerThan_9 (by decide) (fun h_9 => ?_) (fun h_9 => absurd h_9 (fun h => h ((nI_leI (by omega) (by omega)).mpr (by omega))))
      refine V_aload_n C dX3_dropLocalsNewerThan_54 (by rfl) ?_
      refine V_iload_n C dX3_dropLocalsNewerThan_55 (by rfl) ?_
      refine V_put C (ci := 3) hx1 rfl wu_X3 1 (by decide) fl_X3_15 rfl tyX3 tyX3_ok nmX3 rfl (by rfl) (by rfl) (Nat.le_of_ble_eq_true rfl) dX3_dropLocalsNewerThan_56 ?_
      exact V_vret C hr (by decide) (by decide) dX3_dropLocalsNewerThan_59 ⟨rfl, k9, tf', ob', by rw [htt] at hL; exact hL, rfl⟩
    | succ d ih =>
      intro t k9 tf' ob' h1 h2 hL
      rcases Nat.lt_or_ge t (gAlive σ) with ht | ht
      · have hx1 : (mput M (A 1 0) (.inl (ct 4, 200, .inr (.inr (.inr (.inr tf')))))) x = some (xE A σ) := (mput_ne nx).trans hx0
        have ht1 : (mput M (A 1 0) (.inl (ct 4, 200, .inr (.inr (.inr (.inr tf')))))) (A 8 (ob t)) = some (tE A σ (ob t)) := (mput_ne (nT t ht)).trans (hTh t ht)
        have hs1 : (mput M (A 1 0) (.inl (ct 4, 200, .inr (.inr (.inr (.inr tf')))))) q = some (.inr (1, [y1, .int (nI f), y3, y4, y5, y6])) := (mput_ne nq).trans hs
        have hobt := hob t ht
        have hk9 : k9 ≤ t := by have := hL.1; omega
        have go : ∀ (c9 : Nat) (tf2 : Nat → Option Nat) (ob2 : Nat → Nat), LI A σ ob f (t + 1) c9 tf2 ob2 → VV p l e (rmK 2 0 0) s m ([.ref x, .ref q] : List Value).toArray below meth c 5 base D (QB base D (fun (v9 : Option Value) (M' : Mem) => v9 = none ∧ ∃ c tf' ob', LI A σ ob f (gAlive σ) c tf' ob' ∧ M' = mput (mput M (A 1 0) (.inl (ct 4, 200, .inr (.inr (.inr (.inr tf')))))) x (.inr (3, [.ref (A 1 0), .int (nI c), .int (nI (gMade σ)), .ref (A 2 0), .int (nI (gSv σ)), .int (nI (gLast σ)), .int (nI (gDeep σ)), .ref (A 3 0), .ref (A 4 0), .int (nI (gSt σ))]))) noX below ([.ref x, .ref q] : List Value).toArray s 0 0) (mput M (A 1 0) (.inl (ct 4, 200, .inr (.inr (.inr (.inr tf2)))))) 0 0 48 [(0, .ref x), (1, .ref q), (2, .int (nI c9)), (3, .int (nI t))] [] := by
          intro c9 tf2 ob2 hL2
          refine V_inc1 C dX3_dropLocalsNewerThan_48 (by rfl) (by decide) ?_
          refine V_goto C 4 dX3_dropLocalsNewerThan_51 (by decide) ?_
          refine VV.loc [(0, .ref x), (1, .ref q), (2, .int (nI c9)), (3, .int (nI (t + 1)))] ⟨rfl, rfl, rfl, (by rw [← nI_1]; rfl), trivial⟩ ?_
          exact ih (t + 1) c9 tf2 ob2 (by omega) (by omega) hL2
        refine V_iload_n C dX3_dropLocalsNewerThan_4 (by rfl) ?_
        refine V_aload_n C dX3_dropLocalsNewerThan_5 (by rfl) ?_
        refine V_get C (ci := 3) hx1 rfl wu_X3 1 (by decide) fl_X3_15 rfl (by rfl) dX3_dropLocalsNewerThan_6 ?_
        refine V_icmp_ge C 54 dX3_dropLocalsNewerThan_9 (by decide) (fun h_9 => absurd h_9 (fun h => absurd ((nI_leI (by omega) (by omega)).mp h) (by omega))) (fun h_9 => ?_)
        refine V_aload_n C dX3_dropLocalsNewerThan_12 (by rfl) ?_
        refine V_get C (ci := 3) hx1 rfl wu_X3 0 (by decide) fl_X3_11 rfl (by rfl) dX3_dropLocalsNewerThan_13 ?_
        refine V_iload_n C dX3_dropLocalsNewerThan_16 (by rfl) ?_
        refine N_aldT C (mput_eq _ _ _) (by omega) (by decide) (hL.2.2.1 t (Nat.le_refl _) ht) dX3_dropLocalsNewerThan_17 ?_
        refine V_astore C dX3_dropLocalsNewerThan_18 (by decide) ?_
        refine V_aload C dX3_dropLocalsNewerThan_20 (by rfl) ?_
        refine V_get C (ci := 2) ht1 rfl wu_X2 1 (by decide) fl_X3_75 rfl (by rfl) dX3_dropLocalsNewerThan_22 ?_
        refine V_if_ne C 37 dX3_dropLocalsNewerThan_25 (by decide) (fun h25 => ?_) (fun h25 => ?_)
        · refine V_aload_n C dX3_dropLocalsNewerThan_37 (by rfl) ?_
          refine V_get C (ci := 3) hx1 rfl wu_X3 0 (by decide) fl_X3_11 rfl (by rfl) dX3_dropLocalsNewerThan_38 ?_
          refine V_iload_n C dX3_dropLocalsNewerThan_41 (by rfl) ?_
          refine V_aload C dX3_dropLocalsNewerThan_42 (by rfl) ?_
          refine N_aastT C ht1 (mput_eq _ _ _) (by omega) (by decide) dX3_dropLocalsNewerThan_44 ?_
          refine VV.eqv (mput_mput _ _ _ _) rfl ?_
          refine V_inc1 C dX3_dropLocalsNewerThan_45 (by rfl) (by decide) ?_
          refine VV.loc [(0, .ref x), (1, .ref q), (2, .int (nI (k9 + 1))), (3, .int (nI t))] ⟨rfl, rfl, (by rw [← nI_1]; rfl), rfl, trivial⟩ ?_
          exact go (k9 + 1) _ _ (hL.keep hO ht (by simp only [stay, Bool.not_eq_true', decide_eq_false_iff_not]; rintro ⟨h, _⟩; rw [h] at h25; exact h25 rfl))
        · refine V_aload C dX3_dropLocalsNewerThan_28 (by rfl) ?_
          refine V_aload_n C dX3_dropLocalsNewerThan_30 (by rfl) ?_
          refine V_callV C hx (As := [.ref q]) (c_isNewerThan l hl base D ct sa (by omega) (by omega) ht1 hs1) w_X3_146 ht1 rfl rfl (by decide) (Nat.le_of_ble_eq_true rfl) ⟨by decide, by decide⟩ dX3_dropLocalsNewerThan_31 (by decide) (by decide) (fun _ _ h => h.elim) (fun v9 M1 hv => ?_)
          obtain ⟨rfl, rfl⟩ := hv
          refine VV.eqv (M' := mput M (A 1 0) (.inl (ct 4, 200, .inr (.inr (.inr (.inr tf')))))) (st' := [.int (b2i (decide (f ≤ ob t)))]) rfl rfl ?_
          have hg0 : gGlob σ (ob t) = 0 := by
            have := hgl (ob t)
            rcases Nat.eq_zero_or_pos (gGlob σ (ob t)) with h | h
            · exact h
            · rw [show gGlob σ (ob t) = 1 by omega] at h25; exact absurd h25 (by decide)
          refine V_if_ne C 48 dX3_dropLocalsNewerThan_34 (by decide) (fun h34 => ?_) (fun h34 => ?_)
          · refine VV.loc [(0, .ref x), (1, .ref q), (2, .int (nI k9)), (3, .int (nI t))] ⟨rfl, rfl, rfl, rfl, trivial⟩ ?_
            exact go k9 _ _ (hL.skip (by simp only [stay, Bool.not_eq_false', decide_eq_true_eq]; refine ⟨hg0, ?_⟩; rcases Nat.lt_or_ge (ob t) f with h | h; rw [decide_eq_false (by omega)] at h34; exact absurd rfl h34; exact h))
          · refine V_aload_n C dX3_dropLocalsNewerThan_37 (by rfl) ?_
            refine V_get C (ci := 3) hx1 rfl wu_X3 0 (by decide) fl_X3_11 rfl (by rfl) dX3_dropLocalsNewerThan_38 ?_
            refine V_iload_n C dX3_dropLocalsNewerThan_41 (by rfl) ?_
            refine V_aload C dX3_dropLocalsNewerThan_42 (by rfl) ?_
            refine N_aastT C ht1 (mput_eq _ _ _) (by omega) (by decide) dX3_dropLocalsNewerThan_44 ?_
            refine VV.eqv (mput_mput _ _ _ _) rfl ?_
            refine V_inc1 C dX3_dropLocalsNewerThan_45 (by rfl) (by decide) ?_
            refine VV.loc [(0, .ref x), (1, .ref q), (2, .int (nI (k9 + 1))), (3, .int (nI t))] ⟨rfl, rfl, (by rw [← nI_1]; rfl), rfl, trivial⟩ ?_
            exact go (k9 + 1) _ _ (hL.keep hO ht (by simp only [stay, Bool.not_eq_true', decide_eq_false_iff_not]; rintro ⟨_, h⟩; rw [decide_eq_true h] at h34; exact absurd h34 (by decide)))
      · exact ih t k9 tf' ob' (by omega) h2 hL
  refine V_iconst C (0) dX3_dropLocalsNewerThan_0 (by decide) ?_
  refine V_istore_n C dX3_dropLocalsNewerThan_1 (by decide) ?_
  refine V_iconst C (0) dX3_dropLocalsNewerThan_2 (by decide) ?_
  refine V_istore_n C dX3_dropLocalsNewerThan_3 (by decide) ?_
  refine VV.loc [(0, .ref x), (1, .ref q), (2, .int (nI 0)), (3, .int (nI 0))] ⟨rfl, rfl, rfl, rfl, trivial⟩ ?_
  refine VV.eqv (M' := mput M (A 1 0) (.inl (ct 4, 200, .inr (.inr (.inr (.inr tf)))))) (mput_id htf).symm rfl ?_
  exact loop (gAlive σ) 0 0 tf ob (by omega) (Nat.zero_le _) ⟨rfl, fun j h => absurd h (by omega), fun j _ h => htf2 j h, fun j h => absurd h (by omega), fun i j _ h => absurd h (by omega), fun i h => absurd h (by omega)⟩
/-- counting the objects that go -/
def cntO (σ : Sg) (f : Nat) : Nat → Nat
  | 0 => 0
  | n + 1 => cntO σ f n + (if gThere σ n = 1 ∧ gGlob σ n = 0 ∧ f ≤ n then 1 else 0)
theorem cntO_lo {σ : Sg} {f : Nat} : ∀ n, n ≤ f → cntO σ f n = 0 := by
  intro n
  induction n with
  | zero => intro _; rfl
  | succ n ih => intro h; simp only [cntO]; rw [ih (by omega), if_neg (by omega)]
theorem cntO_gone {σ : Sg} {f : Nat} : ∀ n, cntO σ f (f + n) = goneC σ f n := by
  intro n
  induction n with
  | zero => exact cntO_lo f (Nat.le_refl _)
  | succ n ih =>
    show cntO σ f (f + n) + _ = goneC σ f n + _
    rw [ih]
    congr 1
    by_cases h : gThere σ (f + n) = 1 ∧ gGlob σ (f + n) = 0
    · rw [if_pos h, if_pos ⟨h.1, h.2, Nat.le_add_right f n⟩]
    · rw [if_neg h, if_neg (fun g => h ⟨g.1, g.2.1⟩)]
theorem cnt_enum {σ : Sg} {ob : Nat → Nat} (hO : RepO ob σ) (f : Nat) : ∀ n, n ≤ gMade σ → ∃ p, p ≤ gAlive σ ∧ (∀ i, i < p → ob i < n) ∧ (∀ i, p ≤ i → i < gAlive σ → n ≤ ob i) ∧ gnE σ ob f p = cntO σ f n := by
  intro n
  induction n with
  | zero => intro _; exact ⟨0, Nat.zero_le _, fun i h => absurd h (by omega), fun i _ _ => Nat.zero_le _, rfl⟩
  | succ n ih =>
    intro hn
    obtain ⟨p, h1, h2, h3, h4⟩ := ih (by omega)
    by_cases ht : gThere σ n = 1
    · obtain ⟨i, g1, g2⟩ := hO.2.2 n (by omega) ht
      have hip : p ≤ i := by
        rcases Nat.lt_or_ge i p with q | q
        · have := h2 i q; omega
        · exact q
      have hpe : i = p := by
        rcases Nat.lt_or_ge p i with q | q
        · have q1 := hO.2.1 p i q g1
          have q2 := h3 p (Nat.le_refl _) (by omega)
          omega
        · omega
      subst hpe
      refine ⟨i + 1, by omega, fun j hj => ?_, fun j q1 q2 => ?_, ?_⟩
      · rcases Nat.lt_or_ge j i with q | q
        · have := h2 j q; omega
        · rw [show j = i by omega]; omega
      · have := hO.2.1 i j (by omega) q2; omega
      · simp only [gnE, cntO]
        rw [h4, g2]
        congr 1
        unfold stay
        by_cases q : gGlob σ n = 0 ∧ f ≤ n
        · rw [decide_eq_true q]; exact (if_pos ⟨ht, q.1, q.2⟩).symm
        · rw [decide_eq_false q]; exact (if_neg (fun g => q ⟨g.2.1, g.2.2⟩)).symm
    · refine ⟨p, h1, fun i hi => by have := h2 i hi; omega, fun i q1 q2 => ?_, ?_⟩
      · have q3 := h3 i q1 q2
        rcases Nat.lt_or_ge n (ob i) with q | q
        · exact q
        · have : ob i = n := by omega
          have q4 := (hO.1 i q2).2
          rw [this] at q4; exact absurd q4 ht
      · simp only [cntO]; rw [if_neg (fun g => ht g.1), h4]; rfl
theorem gone_eq {σ : Sg} {ob : Nat → Nat} (hO : RepO ob σ) {f : Nat} (hf : f ≤ gMade σ) : gnE σ ob f (gAlive σ) = goneC σ f (gMade σ - f) := by
  obtain ⟨p, h1, h2, h3, h4⟩ := cnt_enum hO f (gMade σ) (Nat.le_refl _)
  have : p = gAlive σ := by
    rcases Nat.lt_or_ge p (gAlive σ) with q | q
    · have q1 := h3 p (Nat.le_refl _) q
      have q2 := (hO.1 p q).1
      omega
    · omega
  rw [this] at h4
  rw [h4, ← cntO_gone, show f + (gMade σ - f) = gMade σ by omega]
end
section
/-! undoSince, restore -/
/-- the cells, the owners, with the last m rows undone -/
def cD (σ : Sg) : Nat → Nat → Int32
  | 0 => σ.2 0
  | m + 1 => va_up (cD σ m) (gPl σ (gRows σ - 1 - m)) (gVal σ (gRows σ - 1 - m))
def oD (σ : Sg) (k : Nat) : Nat → Nat → Int32
  | 0 => fun c => nI (ownr σ (gSv σ) c)
  | m + 1 => va_up (oD σ k m) (gPl σ (gRows σ - 1 - m)) (nI (ownr σ k (gPl σ (gRows σ - 1 - m))))
def PM (ct : Nat → ClassId) (A : Nat → Nat → Nat) (σ : Sg) (M : Mem) (k m : Nat) (M' : Mem) : Prop :=
  (∀ a, (∀ o, gThere σ o = 1 → a ≠ A 9 o ∧ a ≠ A 11 o) → M' a = M a) ∧ ∀ o, gThere σ o = 1 → arI ct M' (A 9 o) 8 (fun i => cD σ m (8 * o + i)) ∧ arI ct M' (A 11 o) 8 (fun i => oD σ k m (8 * o + i))
/-- the top save's rows lie apart -/
theorem top_apart {B : Nat} {σ : Sg} (hI : Inv B σ) {k : Nat} (hsv : gSv σ = k + 1) : ∀ r r', gRb σ k ≤ r → r < r' → r' < gRows σ → gPl σ r ≠ gPl σ r' := by
  intro r r' h1 h2 h3
  exact hI.2.2.2.2.1.2 k r r' (by omega) (by unfold rbx; rw [if_pos (by omega)]; exact h1) h2 (by unfold rbx; rw [if_neg (by omega)]; exact h3)
theorem cD_char {σ : Sg} {lo : Nat} (ha : ∀ r r', lo ≤ r → r < r' → r' < gRows σ → gPl σ r ≠ gPl σ r') : ∀ m, m ≤ gRows σ - lo → (∀ r, gRows σ - m ≤ r → r < gRows σ → cD σ m (gPl σ r) = gVal σ r) ∧ (∀ c, (∀ r, gRows σ - m ≤ r → r < gRows σ → gPl σ r ≠ c) → cD σ m c = σ.2 0 c) := by
  intro m
  induction m with
  | zero => intro _; exact ⟨fun r h1 h2 => absurd h2 (by omega), fun c _ => rfl⟩
  | succ m ih =>
    intro hm
    obtain ⟨h1, h2⟩ := ih (by omega)
    refine ⟨fun r g1 g2 => ?_, fun c hc => ?_⟩
    · simp only [cD]
      by_cases e : r = gRows σ - 1 - m
      · subst e; rw [va_up_self]
      · rw [va_up_ne _ _ (fun q => ha (gRows σ - 1 - m) r (by omega) (by omega) g2 q.symm)]
        exact h1 r (by omega) g2
    · simp only [cD]
      rw [va_up_ne _ _ (fun q => hc (gRows σ - 1 - m) (by omega) (by omega) q.symm)]
      exact h2 c (fun r g1 g2 => hc r (by omega) g2)
theorem undo_char {σ : Sg} {lo : Nat} (ha : ∀ r r', lo ≤ r → r < r' → r' < gRows σ → gPl σ r ≠ gPl σ r') : ∀ n, lo + n ≤ gRows σ → (∀ r, lo ≤ r → r < lo + n → undo σ lo n (gPl σ r) = gVal σ r) ∧ (∀ c, (∀ r, lo ≤ r → r < lo + n → gPl σ r ≠ c) → undo σ lo n c = σ.2 0 c) := by
  intro n
  induction n with
  | zero => intro _; exact ⟨fun r h1 h2 => absurd h2 (by omega), fun c _ => rfl⟩
  | succ n ih =>
    intro hn
    obtain ⟨h1, h2⟩ := ih (by omega)
    refine ⟨fun r g1 g2 => ?_, fun c hc => ?_⟩
    · simp only [undo]
      by_cases e : r = lo + n
      · subst e; rw [va_up_self]
      · rw [va_up_ne _ _ (ha r (lo + n) g1 (by omega) (by omega))]
        exact h1 r g1 (by omega)
    · simp only [undo]
      rw [va_up_ne _ _ (fun q => hc (lo + n) (by omega) (by omega) q.symm)]
      exact h2 c (fun r g1 g2 => hc r g1 (by omega))
theorem cD_undo {σ : Sg} {lo : Nat} (hl : lo ≤ gRows σ) (ha : ∀ r r', lo ≤ r → r < r' → r' < gRows σ → gPl σ r ≠ gPl σ r') (c : Nat) : cD σ (gRows σ - lo) c = undo σ lo (gRows σ - lo) c := by
  obtain ⟨h1, h2⟩ := cD_char ha (gRows σ - lo) (Nat.le_refl _)
  obtain ⟨g1, g2⟩ := undo_char ha (gRows σ - lo) (by omega)
  cases h : hasR σ lo (gRows σ) c with
  | true =>
    obtain ⟨r, q1, q2, rfl⟩ := hasR_iff.mp h
    rw [h1 r (by omega) q2, g1 r q1 (by omega)]
  | false =>
    have hn : ∀ r, lo ≤ r → r < gRows σ → gPl σ r ≠ c := fun r q1 q2 e => by rw [hasR_iff.mpr ⟨r, q1, q2, e⟩] at h; cases h
    rw [h2 c (fun r q1 q2 => hn r (by omega) q2), g2 c (fun r q1 q2 => hn r q1 (by omega))]
theorem oD_char {σ : Sg} {k : Nat} : ∀ m, m ≤ gRows σ → (∀ r, gRows σ - m ≤ r → r < gRows σ → oD σ k m (gPl σ r) = nI (ownr σ k (gPl σ r))) ∧ (∀ c, (∀ r, gRows σ - m ≤ r → r < gRows σ → gPl σ r ≠ c) → oD σ k m c = nI (ownr σ (gSv σ) c)) := by
  intro m
  induction m with
  | zero => intro _; exact ⟨fun r h1 h2 => absurd h2 (by omega), fun c _ => rfl⟩
  | succ m ih =>
    intro hm
    obtain ⟨h1, h2⟩ := ih (by omega)
    refine ⟨fun r g1 g2 => ?_, fun c hc => ?_⟩
    · simp only [oD]
      by_cases e : gPl σ r = gPl σ (gRows σ - 1 - m)
      · rw [e, va_up_self]
      · rw [va_up_ne _ _ e]
        have : r ≠ gRows σ - 1 - m := fun q => e (by rw [q])
        exact h1 r (by omega) g2
    · simp only [oD]
      rw [va_up_ne _ _ (fun q => hc (gRows σ - 1 - m) (by omega) (by omega) q.symm)]
      exact h2 c (fun r g1 g2 => hc r (by omega) g2)
theorem oD_own {σ : Sg} {k : Nat} (hsv : gSv σ = k + 1) (hl : gRb σ k ≤ gRows σ) (c : Nat) : oD σ k (gRows σ - gRb σ k) c = nI (ownr σ k c) := by
  obtain ⟨h1, h2⟩ := oD_char (σ := σ) (k := k) (gRows σ - gRb σ k) (by omega)
  cases h : hasR σ (gRb σ k) (gRows σ) c with
  | true =>
    obtain ⟨r, q1, q2, rfl⟩ := hasR_iff.mp h
    exact h1 r (by omega) q2
  | false =>
    have hn : ∀ r, gRb σ k ≤ r → r < gRows σ → gPl σ r ≠ c := fun r q1 q2 e => by rw [hasR_iff.mpr ⟨r, q1, q2, e⟩] at h; cases h
    rw [h2 c (fun r q1 q2 => hn r (by omega) q2), ownr_top hsv, h]
    rfl
theorem PM.step {ct : Nat → ClassId} {A : Nat → Nat → Nat} {G : Nat → Nat} {σ : Sg} {M M' : Mem} {x k m o j : Nat} (hG : RepG A G σ x) (ho : gThere σ o = 1) (hj : j < 8) (hr : gPl σ (gRows σ - 1 - m) = 8 * o + j) {f w : Nat → Int32} (hf2 : ∀ i, i < 8 → f i = cD σ m (8 * o + i)) (hw2 : ∀ i, i < 8 → w i = oD σ k m (8 * o + i)) (h : PM ct A σ M k m M') : PM ct A σ M k (m + 1) (mput (mput M' (A 9 o) (.inl (ct 0, 8, .inl (upd f j (gVal σ (gRows σ - 1 - m)))))) (A 11 o) (.inl (ct 0, 8, .inl (upd w j (nI (ownr σ k (gPl σ (gRows σ - 1 - m)))))))) := by
  obtain ⟨h1, h2⟩ := h
  obtain ⟨g8, g9, g10, g11⟩ := hG.2.2.2.2.1 o ho
  have n911 : A 9 o ≠ A 11 o := ne_tag g9 g11 (by omega)
  refine ⟨fun a ha => ?_, fun o' ho' => ?_⟩
  · rw [mput_ne (ha o ho).2, mput_ne (ha o ho).1]; exact h1 a ha
  · obtain ⟨p1, p2⟩ := h2 o' ho'
    obtain ⟨q8, q9, q10, q11⟩ := hG.2.2.2.2.1 o' ho'
    by_cases e : o' = o
    · subst e
      refine ⟨⟨_, by rw [mput_ne n911, mput_eq], fun i hi => ?_⟩, ⟨_, by rw [mput_eq], fun i hi => ?_⟩⟩
      · show upd f j _ i = cD σ (m + 1) (8 * o' + i)
        simp only [cD]
        rw [hr]
        by_cases e2 : i = j
        · subst e2; rw [va_up_self, pk_us]
        · rw [va_up_ne _ _ (by omega), pk_un e2]; exact hf2 i hi
      · show upd w j _ i = oD σ k (m + 1) (8 * o' + i)
        simp only [oD]
        rw [hr]
        by_cases e2 : i = j
        · subst e2; rw [va_up_self, pk_us]
        · rw [va_up_ne _ _ (by omega), pk_un e2]; exact hw2 i hi
    · refine ⟨(p1.same ?_).to (fun i hi => ?_), (p2.same ?_).to (fun i hi => ?_)⟩
      · rw [mput_ne (ne_tag q9 g11 (by omega)), mput_ne (ne_tag q9 g9 (by omega))]
      · simp only [cD]; rw [hr, va_up_ne _ _ (by omega)]
      · rw [mput_ne (ne_tag q11 g11 (by omega)), mput_ne (ne_tag q11 g9 (by omega))]
      · simp only [oD]; rw [hr, va_up_ne _ _ (by omega)]
set_option maxHeartbeats 4000000 in
set_option maxRecDepth 100000 in
theorem c_undoSince (l : Launch) (hl : l.stackTraces = false) (base : Nat) (D : va_G) (ct : Nat → ClassId) (sa : Nat → Nat) {A : Nat → Nat → Nat} {G ob : Nat → Nat} {σ : Sg} {M : Mem} {x B : Nat} (hC : RepC ct A G ob σ M x) (hI : Inv B σ) (hB : B ≤ 600) {k : Nat} (hsv : gSv σ = k + 1) {pf hf : Nat → Int32} (hp : M (A 3 0) = some (.inl (ct 0, 10, .inl pf))) (hh : M (A 7 k) = some (.inl (ct 0, 8, .inl hf))) :
    CT l yX3_undoSince (.code yX3_undoSince cX3_undoSince 3 none :: WL) (rmK 3 0 0) base D ct sa M [.ref x, .ref (A 6 k)] (fun (v9 : Option Value) (M' : Mem) => v9 = none ∧ ∃ M1, PM ct A σ M k (gRows σ - gRb σ k) M1 ∧ ∃ c tf' ob', LI A σ ob (gFst σ k) (gAlive σ) c tf' ob' ∧ M' = mput (mput (mput (mput M1 (A 6 k) (sE A σ k (nI (gNum σ k)) (nI (gFst σ k)) (nI (gSb σ k)) none 0)) (A 1 0) (.inl (ct 4, 200, .inr (.inr (.inr (.inr tf')))))) x (.inr (3, [.ref (A 1 0), .int (nI c), .int (nI (gMade σ)), .ref (A 2 0), .int (nI (gSv σ)), .int (nI (gLast σ)), .int (nI (gDeep σ)), .ref (A 3 0), .ref (A 4 0), .int (nI (gSb σ k))]))) (A 3 0) (.inl (ct 0, 10, .inl (va_cpy hf pf 0 0 8)))) noX := by
  refine CT.of hl (by decide) (Nat.le_of_ble_eq_true rfl) ?_
  intro p e s m below meth c C hr hx
  obtain ⟨hx0, hG, hO, hA, hT, hS, hR⟩ := id hC
  obtain ⟨tf, htf, htf2⟩ := hA.1
  have i5 := hI.1.2.2.2.2.1
  have hal := hI.1.2.2.2.1
  have hmd := Nat.le_trans hI.1.1 hB
  have hfm := hI.2.2.1.2.2.1 k (by omega)
  have hs6 := ((hS k (by omega)).1 (by omega)).1
  have g6 := hG.2.2.2.1 k (by omega)
  have hlo := hI.2.2.2.1.1 k (by omega)
  have rbk : rbx σ k = gRb σ k := by unfold rbx; rw [if_pos (by omega)]
  have rbe : rbx σ (k + 1) = gRows σ := by unfold rbx; rw [if_neg (by omega)]
  have apart : ∀ {a t : Nat}, G a = t → t % 16 ≠ 9 → t % 16 ≠ 11 → ∀ o, gThere σ o = 1 → a ≠ A 9 o ∧ a ≠ A 11 o := fun h q1 q2 o ho => ⟨ne_tag h (hG.2.2.2.2.1 o ho).2.1 (by omega), ne_tag h (hG.2.2.2.2.1 o ho).2.2.2 (by omega)⟩
  have hPM0 : PM ct A σ M k 0 M := ⟨fun _ _ => rfl, fun o ho => ⟨(hT o ho).2.1, (hT o ho).2.2.2⟩⟩
  have loop : ∀ (d t : Nat) (Mt : Mem), gRows σ - gRb σ k ≤ t + d → t ≤ gRows σ - gRb σ k → PM ct A σ M k t Mt → VV p l e (rmK 3 0 0) s m ([.ref x, .ref (A 6 k)] : List Value).toArray below meth c 3 base D (QB base D (fun (v9 : Option Value) (M' : Mem) => v9 = none ∧ ∃ M1, PM ct A σ M k (gRows σ - gRb σ k) M1 ∧ ∃ c tf' ob', LI A σ ob (gFst σ k) (gAlive σ) c tf' ob' ∧ M' = mput (mput (mput (mput M1 (A 6 k) (sE A σ k (nI (gNum σ k)) (nI (gFst σ k)) (nI (gSb σ k)) none 0)) (A 1 0) (.inl (ct 4, 200, .inr (.inr (.inr (.inr tf')))))) x (.inr (3, [.ref (A 1 0), .int (nI c), .int (nI (gMade σ)), .ref (A 2 0), .int (nI (gSv σ)), .int (nI (gLast σ)), .int (nI (gDeep σ)), .ref (A 3 0), .ref (A 4 0), .int (nI (gSb σ k))]))) (A 3 0) (.inl (ct 0, 10, .inl (va_cpy hf pf 0 0 8)))) noX below ([.ref x, .ref (A 6 k)] : List Value).toArray s 0 0) Mt 0 0 5 [(0, .ref x), (1, .ref (A 6 k)), (2, va_rf (rowOf A (gRb σ k) (gRows σ - t)))] [] := by
    intro d
    induction d with
    | zero =>
      intro t Mt h1 h2 hP
      have htt : t = gRows σ - gRb σ k := by omega
      subst htt
      rw [show rowOf A (gRb σ k) (gRows σ - (gRows σ - gRb σ k)) = none by unfold rowOf; rw [if_neg (by omega)]]
      have gx := hG.1
      have g1 := hG.2.1 1 (by decide) (by decide)
      have g3 := hG.2.1 3 (by decide) (by decide)
      have nx6 : x ≠ A 6 k := ne_tag gx g6.1 (by omega)
      have n16 : A 1 0 ≠ A 6 k := ne_tag g1 g6.1 (by omega)
      have nx1 : x ≠ A 1 0 := ne_tag gx g1 (by decide)
      have n7x : A 7 k ≠ x := ne_tag g6.2 gx (by omega)
      have n71 : A 7 k ≠ A 1 0 := ne_tag g6.2 g1 (by omega)
      have n76 : A 7 k ≠ A 6 k := ne_tag g6.2 g6.1 (by omega)
      have n3x : A 3 0 ≠ x := ne_tag g3 gx (by decide)
      have n31 : A 3 0 ≠ A 1 0 := ne_tag g3 g1 (by decide)
      have n36 : A 3 0 ≠ A 6 k := ne_tag g3 g6.1 (by omega)
      have h6 : Mt (A 6 k) = _ := (hP.1 _ (apart g6.1 (by omega) (by omega))).trans hs6
      have h1x : Mt x = _ := (hP.1 _ (apart gx (by decide) (by decide))).trans hx0
      have h1T : Mt (A 1 0) = _ := (hP.1 _ (apart g1 (by decide) (by decide))).trans htf
      have h13 : Mt (A 3 0) = _ := (hP.1 _ (apart g3 (by decide) (by decide))).trans hp
      have h17 : Mt (A 7 k) = _ := (hP.1 _ (apart g6.2 (by omega) (by omega))).trans hh
      have h1Th : ∀ i, i < gAlive σ → Mt (A 8 (ob i)) = some (tE A σ (ob i)) := fun i hi => (hP.1 _ (apart (hG.2.2.2.2.1 _ (hO.1 i hi).2).1 (by omega) (by omega))).trans (hT _ (hO.1 i hi).2).1
      have n86 : ∀ i, i < gAlive σ → A 8 (ob i) ≠ A 6 k := fun i hi => ne_tag (hG.2.2.2.2.1 _ (hO.1 i hi).2).1 g6.1 (by omega)
      refine V_aload_nN C dX3_undoSince_5 (by rfl) ?_
      refine V_ifnullN C 21 dX3_undoSince_6 (by decide) ?_
      refine V_aload_n C dX3_undoSince_21 (by rfl) ?_
      refine V_null C dX3_undoSince_22 ?_
      refine V_put C (ci := 1) h6 rfl wu_X1 4 (by decide) fl_X3_172 rfl tyX1 tyX1_ok nmX1 rfl (by rfl) (by rfl) (Nat.le_of_ble_eq_true rfl) dX3_undoSince_23 ?_
      refine V_aload_n C dX3_undoSince_26 (by rfl) ?_
      refine V_iconst C (0) dX3_undoSince_27 (by decide) ?_
      refine V_put C (ci := 1) (mput_eq _ _ _) rfl wu_X1 5 (by decide) fl_X3_143 rfl tyX1 tyX1_ok nmX1 rfl (by rfl) (by rfl) (Nat.le_of_ble_eq_true rfl) dX3_undoSince_28 ?_
      refine VV.eqv (M' := mput Mt (A 6 k) (sE A σ k (nI (gNum σ k)) (nI (gFst σ k)) (nI (gSb σ k)) none 0)) (mput_mput _ _ _ _) rfl ?_
      refine V_aload_n C dX3_undoSince_31 (by rfl) ?_
      refine V_aload_n C dX3_undoSince_32 (by rfl) ?_
      refine V_callV C hx (As := [.ref (A 6 k)]) (c_drop l hl base D ct sa (ob := ob) (f := gFst σ k) ((mput_ne nx6).trans h1x) ((mput_ne n16).trans h1T) htf2 (fun i hi => (mput_ne (n86 i hi)).trans (h1Th i hi)) (mput_eq _ _ _) hO.2.1 (fun i hi => Nat.lt_of_lt_of_le (hO.1 i hi).1 hmd) hal (by omega) hI.2.1.2.1 nx1) w_X3_185 ((mput_ne nx6).trans h1x) rfl rfl (by decide) (Nat.le_of_ble_eq_true rfl) ⟨by decide, by decide⟩ dX3_undoSince_33 (by decide) (by decide) (fun _ _ h => h.elim) (fun v9 M2 hv => ?_)
      obtain ⟨rfl, c9, tf', ob', hL, rfl⟩ := hv
      refine VV.eqv (st' := []) rfl rfl ?_
      refine V_aload_n C dX3_undoSince_36 (by rfl) ?_
      refine V_aload_n C dX3_undoSince_37 (by rfl) ?_
      refine V_get C (ci := 1) ((mput_ne nx6.symm).trans ((mput_ne n16.symm).trans (mput_eq _ _ _))) rfl wu_X1 2 (by decide) fl_X3_101 rfl (by rfl) dX3_undoSince_38 ?_
      refine V_put C (ci := 3) (mput_eq _ _ _) rfl wu_X3 9 (by decide) fl_X3_46 rfl tyX3 tyX3_ok nmX3 rfl (by rfl) (by rfl) (Nat.le_of_ble_eq_true rfl) dX3_undoSince_41 ?_
      refine VV.eqv (mput_mput _ _ _ _) rfl ?_
      refine V_aload_n C dX3_undoSince_44 (by rfl) ?_
      refine V_get C (ci := 1) ((mput_ne nx6.symm).trans ((mput_ne n16.symm).trans (mput_eq _ _ _))) rfl wu_X1 3 (by decide) fl_X3_104 rfl (by rfl) dX3_undoSince_45 ?_
      refine V_iconst C (nI 0) dX3_undoSince_48 (by decide) ?_
      refine V_aload_n C dX3_undoSince_49 (by rfl) ?_
      refine V_get C (ci := 3) (mput_eq _ _ _) rfl wu_X3 7 (by decide) fl_X3_37 rfl (by rfl) dX3_undoSince_50 ?_
      refine V_iconst C (nI 0) dX3_undoSince_53 (by decide) ?_
      refine V_bipush C (nI 8) dX3_undoSince_54 (by decide) ?_
      refine N_copy C ((mput_ne n7x).trans ((mput_ne n71).trans ((mput_ne n76).trans h17))) ((mput_ne n3x).trans ((mput_ne n31).trans ((mput_ne n36).trans h13))) ml_X3_105 (by decide) (by decide) (by decide) (by decide) (by decide) (by decide) dX3_undoSince_56 ?_
      exact V_vret C hr (by decide) (by decide) dX3_undoSince_59 ⟨rfl, Mt, hP, c9, tf', ob', hL, rfl⟩
    | succ d ih =>
      intro t Mt h1 h2 hP
      rcases Nat.lt_or_ge t (gRows σ - gRb σ k) with ht | ht
      · have hrr : gRows σ - 1 - t < gRows σ := by omega
        rw [show rowOf A (gRb σ k) (gRows σ - t) = some (A 12 (gRows σ - 1 - t)) by unfold rowOf; rw [if_pos (by omega), show gRows σ - t - 1 = gRows σ - 1 - t by omega]]
        have hq := hI.2.2.2.2.2 k (gRows σ - 1 - t) (by omega) (by rw [rbk]; omega) (by rw [rbe]; omega)
        have hrow0 : M (A 12 (gRows σ - 1 - t)) = _ := hR k (gRows σ - 1 - t) (by omega) (by rw [rbk]; omega) (by rw [rbe]; omega)
        have g12 := hG.2.2.2.2.2 (gRows σ - 1 - t) hrr
        have g8 := hG.2.2.2.2.1 _ hq.2.1
        have hrow : Mt (A 12 (gRows σ - 1 - t)) = _ := (hP.1 _ (apart g12 (by omega) (by omega))).trans hrow0
        have h8 : Mt (A 8 (gPl σ (gRows σ - 1 - t) / 8)) = _ := (hP.1 _ (apart g8.1 (by omega) (by omega))).trans (hT _ hq.2.1).1
        obtain ⟨⟨f, hf, hf2⟩, ⟨w, hw, hw2⟩⟩ := hP.2 _ hq.2.1
        have n911 : A 9 (gPl σ (gRows σ - 1 - t) / 8) ≠ A 11 (gPl σ (gRows σ - 1 - t) / 8) := ne_tag g8.2.1 g8.2.2.2 (by omega)
        refine V_aload_n C dX3_undoSince_5 (by rfl) ?_
        refine V_ifnull C dX3_undoSince_6 ?_
        refine V_aload_n C dX3_undoSince_9 (by rfl) ?_
        refine V_callV C hx (As := []) (c_putBack l hl base D ct sa (Nat.mod_lt _ (by decide)) hrow h8 hf hw n911) w_X3_179 hrow rfl rfl (by decide) (Nat.le_of_ble_eq_true rfl) ⟨by decide, by decide⟩ dX3_undoSince_10 (by decide) (by decide) (fun _ _ h => h.elim) (fun v9 M2 hv => ?_)
        obtain ⟨rfl, rfl⟩ := hv
        refine VV.eqv (st' := []) rfl rfl ?_
        have nr9 : A 12 (gRows σ - 1 - t) ≠ A 9 (gPl σ (gRows σ - 1 - t) / 8) := ne_tag g12 g8.2.1 (by omega)
        have nr11 : A 12 (gRows σ - 1 - t) ≠ A 11 (gPl σ (gRows σ - 1 - t) / 8) := ne_tag g12 g8.2.2.2 (by omega)
        have hnext := ih (t + 1) _ (by omega) (by omega) (PM.step (j := gPl σ (gRows σ - 1 - t) % 8) hG hq.2.1 (Nat.mod_lt _ (by decide)) (by omega) hf2 hw2 hP)
        rw [show gRows σ - (t + 1) = gRows σ - 1 - t by omega] at hnext
        refine V_aload_n C dX3_undoSince_13 (by rfl) ?_
        refine V_get C (ci := 0) ((mput_ne nr11).trans ((mput_ne nr9).trans hrow)) rfl wu_X0 4 (by decide) fl_X3_182 rfl (by rfl) dX3_undoSince_14 ?_
        rw [rbk]
        revert hnext
        cases rowOf A (gRb σ k) (gRows σ - 1 - t) with
        | none =>
          intro hnext
          refine V_astore_nN C dX3_undoSince_17 (by decide) ?_
          refine V_goto C 5 dX3_undoSince_18 (by decide) ?_
          refine VV.loc [(0, .ref x), (1, .ref (A 6 k)), (2, .null)] ⟨rfl, rfl, rfl, trivial⟩ ?_
          exact hnext
        | some r9 =>
          intro hnext
          refine V_astore_n C dX3_undoSince_17 (by decide) ?_
          refine V_goto C 5 dX3_undoSince_18 (by decide) ?_
          refine VV.loc [(0, .ref x), (1, .ref (A 6 k)), (2, .ref r9)] ⟨rfl, rfl, rfl, trivial⟩ ?_
          exact hnext
      · exact ih t Mt (by omega) h2 hP
  refine V_aload_n C dX3_undoSince_0 (by rfl) ?_
  refine V_get C (ci := 1) hs6 rfl wu_X1 4 (by decide) fl_X3_172 rfl (by rfl) dX3_undoSince_1 ?_
  have st9 := loop (gRows σ - gRb σ k) 0 M (by omega) (by omega) hPM0
  rw [rbk, rbe]
  rw [Nat.sub_zero] at st9
  revert st9
  cases rowOf A (gRb σ k) (gRows σ) with
  | none =>
    intro st9
    refine V_astore_nN C dX3_undoSince_4 (by decide) ?_
    refine VV.loc [(0, .ref x), (1, .ref (A 6 k)), (2, .null)] ⟨rfl, rfl, rfl, trivial⟩ ?_
    exact st9
  | some r9 =>
    intro st9
    refine V_astore_n C dX3_undoSince_4 (by decide) ?_
    refine VV.loc [(0, .ref x), (1, .ref (A 6 k)), (2, .ref r9)] ⟨rfl, rfl, rfl, trivial⟩ ?_
    exact st9
theorem there_res {σ : Sg} {k o : Nat} : gThere (doRestore σ k) o = if gFst σ k ≤ o ∧ o < gMade σ ∧ gGlob σ o = 0 then 0 else gThere σ o := rfl
theorem there_res1 {σ : Sg} {k o : Nat} : gThere (doRestore σ k) o = 1 ↔ gThere σ o = 1 ∧ ¬ (gFst σ k ≤ o ∧ o < gMade σ ∧ gGlob σ o = 0) := by
  rw [there_res]
  split
  · constructor
    · intro h; cases h
    · rintro ⟨_, h⟩; exact absurd (by assumption) h
  · exact ⟨fun h => ⟨h, by assumption⟩, fun h => h.1⟩
theorem rbx_res {σ : Sg} {k : Nat} (hsv : gSv σ = k + 1) {i : Nat} (hi : i ≤ k) : rbx (doRestore σ k) i = rbx σ i := by
  show (if i < k then gRb σ i else gRb σ k) = if i < gSv σ then gRb σ i else gRows σ
  rw [if_pos (show i < gSv σ by omega)]
  by_cases e : i < k
  · rw [if_pos e]
  · rw [if_neg e, show i = k by omega]
theorem inv_restore {B : Nat} {σ : Sg} (h : Inv B σ) {k : Nat} (hsv : gSv σ = k + 1) (h8 : isNw σ (gPa σ 8) (gFst σ k) = false) (h9 : isNw σ (gPa σ 9) (gFst σ k) = false) : Inv (B + 1) (doRestore σ k) := by
  have hap := top_apart h hsv
  obtain ⟨⟨a1, a2, a3, a4, a5, a6, a7, a8⟩, ⟨t1, t2, t3, t4⟩, ⟨n1, n2, n3, n4⟩, ⟨r1, r2, r3, r4, r5, r6⟩, ⟨⟨v8, v9⟩, i5⟩, i6⟩ := h
  have hth : ∀ o, o < gMade σ → gThere σ o = 1 → ¬ (gFst σ k ≤ o ∧ gGlob σ o = 0) → gThere (doRestore σ k) o = 1 := fun o q1 q2 q3 => there_res1.mpr ⟨q2, fun g => q3 ⟨g.1, g.2.2⟩⟩
  have hv : ∀ v, isV σ v = true → isNw σ v (gFst σ k) = false → isV (doRestore σ k) v = true := by
    intro v q1 q2
    simp only [isV, isO, Bool.or_eq_true, decide_eq_true_eq] at q1 ⊢
    rcases q1 with q1 | ⟨q3, q4, q5⟩
    · exact Or.inl q1
    · by_cases hv0 : 0 ≤ v
      · exact Or.inl hv0
      · refine Or.inr ⟨q3, q4, hth _ q4 q5 (fun g => ?_)⟩
        simp only [isNw, decide_eq_false_iff_not] at q2
        exact q2 ⟨Int32.not_le.mp hv0, g.1, g.2⟩
  have hun : ∀ j, 8 * gMade σ ≤ j → undo σ (gRb σ k) (gRows σ - gRb σ k) j = gCe σ j := by
    intro j hj
    refine (undo_char hap (gRows σ - gRb σ k) (by have := r1 k (by omega); omega)).2 j (fun r q1 q2 e => ?_)
    have q := (i6 k r (by omega) (by unfold rbx; rw [if_pos (by omega)]; exact q1) (by unfold rbx; rw [if_neg (by omega)]; have := r1 k (by omega); omega)).1
    have q3 := n3 k (by omega)
    rw [e] at q; omega
  refine ⟨⟨Nat.le_succ_of_le a1, Nat.le_succ_of_le (Nat.le_trans (r1 k (by omega)) a2), Nat.le_succ_of_le a3, Nat.le_trans (Nat.sub_le _ _) a4, show k ≤ 16 by omega, Nat.le_trans (r3 k (by omega)) a6, show k ≤ gDeep σ by omega, a8⟩, ⟨fun o => ?_, t2, fun o ho => t3 o (there_res1.mp ho).1, fun j hj => ⟨(hun j hj).trans (t4 j hj).1, (t4 j hj).2⟩⟩, ⟨fun i hi => n1 i (by have : i < k := hi; omega), fun i j hij hj => n2 i j hij (by have : j < k := hj; omega), fun i hi => n3 i (by have : i < k := hi; omega), fun i j hij hj => n4 i j hij (by have : j < k := hj; omega)⟩, ⟨fun i hi => r2 i k (by have : i < k := hi; omega) (by omega), fun i j hij hj => r2 i j hij (by have : j < k := hj; omega), fun i hi => r4 i k (by have : i < k := hi; omega) (by omega), fun i j hij hj => r4 i j hij (by have : j < k := hj; omega), fun h0 => ?_, fun h0 => r6 (by omega)⟩, ⟨⟨?_, ?_⟩, fun i r r' h1 h2 h3 h4 => ?_⟩, fun i r h1 h2 h3 => ?_⟩
  · rw [there_res]; split
    · omega
    · exact t1 o
  · have h0' : k = 0 := h0
    show gRb σ k = 0
    rw [h0']; exact r6 (by omega)
  · have : gPa (doRestore σ k) 8 = gPa σ 8 := by
      show va_cpy (σ.2 3) (σ.2 2) (10 * k) 0 8 8 = σ.2 2 8
      exact pk_cpy_out (by omega)
    rw [this]; exact hv _ v8 h8
  · have : gPa (doRestore σ k) 9 = gPa σ 9 := by
      show va_cpy (σ.2 3) (σ.2 2) (10 * k) 0 8 9 = σ.2 2 9
      exact pk_cpy_out (by omega)
    rw [this]; exact hv _ v9 h9
  · have h1' : i < k := h1
    rw [rbx_res hsv (by omega)] at h2 h4
    exact i5 i r r' (by omega) h2 h3 h4
  · have h1' : i < k := h1
    rw [rbx_res hsv (by omega)] at h2 h3
    obtain ⟨q1, q2, q3⟩ := i6 i r (by omega) h2 h3
    have q4 := n4 i k (by omega) (by omega)
    exact ⟨q1, there_res1.mpr ⟨q2, fun g => by have g1 : gFst σ k ≤ gPl σ r / 8 := g.1; omega⟩, q3⟩
set_option maxHeartbeats 4000000 in
theorem restoreC {ct : Nat → ClassId} {A : Nat → Nat → Nat} {G ob : Nat → Nat} {σ : Sg} {M : Mem} {x B : Nat} (hC : RepC ct A G ob σ M x) (hI : Inv B σ) {k : Nat} (hsv : gSv σ = k + 1) {pf hf : Nat → Int32} (hp2 : ∀ j, j < 10 → pf j = σ.2 2 j) (hh2 : ∀ j, j < 8 → hf j = gHad σ (10 * k + j)) (hh : M (A 7 k) = some (.inl (ct 0, 8, .inl hf))) {M1 M' : Mem} (hP : PM ct A σ M k (gRows σ - gRb σ k) M1) {c : Nat} {tf' : Nat → Option Nat} {ob' : Nat → Nat} (hL : LI A σ ob (gFst σ k) (gAlive σ) c tf' ob') (hold : ∀ a, a ≠ x → a ≠ A 1 0 → a ≠ A 3 0 → a ≠ A 6 k → M' a = M1 a)
    (mx : M' x = some (.inr (3, [.ref (A 1 0), .int (nI c), .int (nI (gMade σ)), .ref (A 2 0), .int (nI k), .int (nI (gLast σ)), .int (nI (gDeep σ)), .ref (A 3 0), .ref (A 4 0), .int (nI (gSb σ k))]))) (mT : M' (A 1 0) = some (.inl (ct 4, 200, .inr (.inr (.inr (.inr tf')))))) (m3 : M' (A 3 0) = some (.inl (ct 0, 10, .inl (va_cpy hf pf 0 0 8)))) (m6 : M' (A 6 k) = some (sE A σ k (nI (gNum σ k)) (nI (gFst σ k)) (nI (gSb σ k)) none 0)) : RepC ct A G ob' (doRestore σ k) M' x := by
  have hap := top_apart hI hsv
  have hfm := hI.2.2.1.2.2.1 k (by omega)
  have hlo := hI.2.2.2.1.1 k (by omega)
  have hst := hI.2.2.2.1.2.2.1 k (by omega)
  have i5 := hI.1.2.2.2.2.1
  obtain ⟨hx0, hG, hO, ⟨⟨tf, a1, a2⟩, ⟨s9, a3, a4⟩, a5, ⟨uf, a6, a7⟩, a8⟩, hT, hS, hR⟩ := hC
  have ge := gone_eq hO hfm
  have ec : c = gAlive σ - goneC σ (gFst σ k) (gMade σ - gFst σ k) := by have := hL.1; omega
  have g6 := hG.2.2.2.1 k (by omega)
  have apart : ∀ {a t : Nat}, G a = t → t % 16 ≠ 9 → t % 16 ≠ 11 → ∀ o, gThere σ o = 1 → a ≠ A 9 o ∧ a ≠ A 11 o := fun h q1 q2 o ho => ⟨ne_tag h (hG.2.2.2.2.1 o ho).2.1 (by omega), ne_tag h (hG.2.2.2.2.1 o ho).2.2.2 (by omega)⟩
  have h1 : ∀ {a t : Nat}, G a = t → t ≠ 13 → t ≠ 1 → t ≠ 3 → t ≠ 16 * k + 6 → M' a = M1 a := fun h q1 q2 q3 q4 => hold _ (ne_tag h hG.1 q1) (ne_tag h (hG.2.1 1 (by decide) (by decide)) q2) (ne_tag h (hG.2.1 3 (by decide) (by decide)) q3) (ne_tag h g6.1 q4)
  have h0 : ∀ {a t : Nat}, G a = t → t ≠ 13 → t ≠ 1 → t ≠ 3 → t ≠ 16 * k + 6 → t % 16 ≠ 9 → t % 16 ≠ 11 → M' a = M a := fun h q1 q2 q3 q4 q5 q6 => (h1 h q1 q2 q3 q4).trans (hP.1 _ (apart h q5 q6))
  have ow : ∀ i q, i ≤ k → ownr (doRestore σ k) i q = ownr σ i q := fun i q hi => ownr_congr i q (fun j hj => rbx_res hsv (by omega)) (fun _ _ _ _ _ => rfl) (fun _ _ => rfl)
  refine ⟨?_, ⟨hG.1, hG.2.1, hG.2.2.1, hG.2.2.2.1, fun o ho => hG.2.2.2.2.1 o (there_res1.mp ho).1, fun r hr => hG.2.2.2.2.2 r (Nat.lt_of_lt_of_le hr hlo)⟩, ⟨fun j hj => ?_, fun i j hij hj => hL.2.2.2.2.1 i j hij (by rw [ec]; exact hj), fun o q1 q2 => ?_⟩, ⟨⟨tf', mT, fun j hj => hL.2.1 j (by rw [ec]; exact hj)⟩, ⟨s9, ?_, a4⟩, ⟨_, m3, fun j hj => ?_⟩, ⟨uf, ?_, a7⟩, fun i hi => ?_⟩, fun o ho => ?_, fun i hi => ?_, fun i r q1 q2 q3 => ?_⟩
  · rw [mx, ec]; rfl
  · obtain ⟨i, q1, q2, q3⟩ := hL.2.2.2.1 j (by rw [ec]; exact hj)
    obtain ⟨q4, q5⟩ := hO.1 i q1
    rw [q2]
    refine ⟨q4, there_res1.mpr ⟨q5, fun g => ?_⟩⟩
    simp only [stay, Bool.not_eq_true', decide_eq_false_iff_not] at q3
    exact q3 ⟨g.2.2, g.1⟩
  · obtain ⟨q3, q4⟩ := there_res1.mp q2
    obtain ⟨i, q5, q6⟩ := hO.2.2 o q1 q3
    obtain ⟨j, q7, q8⟩ := hL.2.2.2.2.2 i q5 (by rw [q6]; simp only [stay, Bool.not_eq_true', decide_eq_false_iff_not]; exact fun g => q4 ⟨g.2, q1, g.1⟩)
    exact ⟨j, by rw [ec] at q7; exact q7, by rw [q8, q6]⟩
  · rw [h0 (hG.2.1 2 (by decide) (by decide)) (by decide) (by decide) (by decide) (by omega) (by decide) (by decide)]; exact a3
  · show va_cpy hf pf 0 0 8 j = va_cpy (σ.2 3) (σ.2 2) (10 * k) 0 8 j
    rcases Nat.lt_or_ge j 8 with h | h
    · have e1 : va_cpy hf pf 0 0 8 j = hf j := by have := cpy_at (f := hf) (g := pf) (sp := 0) (dp := 0) h; simpa using this
      have e2 : va_cpy (σ.2 3) (σ.2 2) (10 * k) 0 8 j = σ.2 3 (10 * k + j) := by have := cpy_at (f := σ.2 3) (g := σ.2 2) (sp := 10 * k) (dp := 0) h; simpa using this
      rw [e1, e2]; exact hh2 j h
    · rw [pk_cpy_out (by omega), pk_cpy_out (by omega)]; exact hp2 j hj
  · rw [h0 (hG.2.1 4 (by decide) (by decide)) (by decide) (by decide) (by decide) (by omega) (by decide) (by decide)]; exact a6
  · obtain ⟨f, q1, q2⟩ := a8 i hi
    exact ⟨f, by rw [h0 (hG.2.2.1 i hi) (by omega) (by omega) (by omega) (by omega) (by omega) (by omega)]; exact q1, fun h => q2 (Nat.lt_of_lt_of_le h hst)⟩
  · have ho' := (there_res1.mp ho).1
    obtain ⟨g8, g9, g10, g11⟩ := hG.2.2.2.2.1 o ho'
    obtain ⟨q1, q2, q3, q4⟩ := hT o ho'
    obtain ⟨p1, p2⟩ := hP.2 o ho'
    refine ⟨?_, (p1.same (h1 g9 (by omega) (by omega) (by omega) (by omega))).to (fun i hi => ?_), q3.same (h0 g10 (by omega) (by omega) (by omega) (by omega) (by omega) (by omega)), (p2.same (h1 g11 (by omega) (by omega) (by omega) (by omega))).to (fun i hi => ?_)⟩
    · rw [h0 g8 (by omega) (by omega) (by omega) (by omega) (by omega) (by omega)]; exact q1
    · exact cD_undo hlo hap _
    · rw [oD_own hsv hlo]
      show nI (ownr σ k (8 * o + i)) = nI (ownr (doRestore σ k) k (8 * o + i))
      rw [ow k _ (Nat.le_refl _)]
  · obtain ⟨t6, t7⟩ := hG.2.2.2.1 i hi
    have e7 := h0 t7 (by omega) (by omega) (by omega) (by omega) (by omega) (by omega)
    by_cases e : i = k
    · subst e
      exact ⟨fun h => absurd (show i < i from h) (Nat.lt_irrefl _), fun _ => ⟨_, _, _, hf, m6, by rw [e7]; exact hh⟩⟩
    · have e6 := h0 t6 (by omega) (by omega) (by omega) (by omega) (by omega) (by omega)
      refine ⟨fun h => ?_, fun h => ?_⟩
      · have h' : i < k := h
        obtain ⟨p1, p2⟩ := (hS i hi).1 (by omega)
        refine ⟨?_, p2.same e7⟩
        rw [e6, p1, rbx_res hsv (by omega), rbx_res hsv (by omega)]; rfl
      · have h' : k ≤ i := h
        obtain ⟨n, f, p, g9, p1, p2⟩ := (hS i hi).2 (by omega)
        exact ⟨n, f, p, g9, by rw [e6]; exact p1, by rw [e7]; exact p2⟩
  · have q1' : i < k := q1
    rw [rbx_res hsv (by omega)] at q2 q3
    have t := hG.2.2.2.2.2 r (Nat.lt_of_lt_of_le q3 (rbx_le hI _))
    exact (hR i r (by omega) q2 q3).mv (h0 t (by omega) (by omega) (by omega) (by omega) (by omega) (by omega)) rfl rfl (ow _ _ (by omega)) (rbx_res hsv (by omega))
set_option maxHeartbeats 4000000 in
set_option maxRecDepth 100000 in
theorem c_restore (l : Launch) (hl : l.stackTraces = false) (base : Nat) (D : va_G) (ct : Nat → ClassId) (sa : Nat → Nat) {A : Nat → Nat → Nat} {G ob : Nat → Nat} {σ : Sg} {M : Mem} {x B : Nat} (hC : RepC ct A G ob σ M x) (hI : Inv B σ) (hB : B ≤ 600) (n : Int32) :
    CT l yX3_restore (.code yX3_restore cX3_restore 3 (some .int) :: WL) (rmK 7 3 18) base D ct sa M [.ref x, .int n] (PostC ct G M x (0, oRestore σ n)) noX := by
  refine CT.of hl (by decide) (Nat.le_of_ble_eq_true rfl) ?_
  intro p e s m below meth c C hr hx
  obtain ⟨hx0, hG, hO, hA, hT, hS, hR⟩ := id hC
  obtain ⟨sf9, hsf, hsf2⟩ := hA.2.1
  obtain ⟨pf, hp, hp2⟩ := hA.2.2.1
  obtain ⟨⟨i1, i2, i3, i4, i5, i6, i7, i8⟩, iT, ⟨m1, m2, m3, m4⟩, -⟩ := id hI
  refine V_iload_n C dX3_restore_0 (by rfl) ?_
  refine V_iconst C (1) dX3_restore_1 (by decide) ?_
  refine V_icmp_lt C 13 dX3_restore_2 (by decide) (fun h2 => ?_) (fun h2 => ?_)
  · refine V_iconst C (-1) dX3_restore_13 (by decide) ?_
    exact V_iret C hr (by decide) (by decide) dX3_restore_14 (by rw [show oRestore σ n = (-1, σ) by unfold oRestore; rw [if_pos (Or.inl h2)]]; exact ⟨rfl, rfl, A, G, ob, hC, FrC.rfl⟩)
  · refine V_iload_n C dX3_restore_5 (by rfl) ?_
    refine V_aload_n C dX3_restore_6 (by rfl) ?_
    refine V_get C (ci := 3) hx0 rfl wu_X3 5 (by decide) fl_X3_31 rfl (by rfl) dX3_restore_7 ?_
    refine V_icmp_le C 15 dX3_restore_10 (by decide) (fun h10 => ?_) (fun h10 => ?_)
    · have c1 : ¬ (n < 1 ∨ nI (gLast σ) < n) := by rintro (h | h); exact h2 h; exact Int32.not_lt.mpr h10 h
      refine V_aload_n C dX3_restore_15 (by rfl) ?_
      refine V_iload_n C dX3_restore_16 (by rfl) ?_
      refine V_callV C hx (As := [.int n]) (c_placeOfLiving l hl base D ct sa hC hI hB n) w_X3_117 hx0 rfl rfl (by decide) (Nat.le_of_ble_eq_true rfl) ⟨by decide, by decide⟩ dX3_restore_17 (by decide) (by decide) (fun _ _ h => h.elim) (fun v9 M1 hv => ?_)
      obtain ⟨⟨z, rfl, hz⟩, rfl⟩ := hv
      refine VV.eqv (st' := [.int z]) rfl rfl ?_
      rcases hz with ⟨k, hk, en, rfl⟩ | ⟨hno, rfl⟩
      · have hlv : isLv σ n = true := by simp only [isLv, List.any_eq_true, List.mem_range, decide_eq_true_eq]; exact ⟨k, hk, en⟩
        have hnk := (m1 k hk).2
        have hnl := fun h0 : 0 < gSv σ => (m1 (gSv σ - 1) (by omega)).2
        refine V_istore_n C dX3_restore_20 (by decide) ?_
        refine V_iload_n C dX3_restore_21 (by rfl) ?_
        refine V_if_ge C 28 dX3_restore_22 (by decide) (fun h_22 => ?_) (fun h_22 => absurd h_22 (fun h => h (nI_pos' (by omega))))
        refine V_iload_n C dX3_restore_28 (by rfl) ?_
        refine V_aload_n C dX3_restore_29 (by rfl) ?_
        refine V_get C (ci := 3) hx0 rfl wu_X3 4 (by decide) fl_X3_28 rfl (by rfl) dX3_restore_30 ?_
        refine V_iconst C (1) dX3_restore_33 (by decide) ?_
        refine V_isub C dX3_restore_34 ?_
        refine V_top (y := nI (gSv σ - 1)) (pk_sub (b := 1) (by omega)) ?_
        refine V_icmp_ge C 41 dX3_restore_35 (by decide) (fun h35 => ?_) (fun h35 => ?_)
        · have hsv : gSv σ = k + 1 := by have := (nI_leI (by omega) (by omega)).mp h35; omega
          have hkk : gSv σ - 1 = k := by omega
          have g6 := hG.2.2.2.1 k (by omega)
          have g1 := hG.2.1 1 (by decide) (by decide)
          have g3 := hG.2.1 3 (by decide) (by decide)
          have nx1 : x ≠ A 1 0 := ne_tag hG.1 g1 (by decide)
          have nx3 : x ≠ A 3 0 := ne_tag hG.1 g3 (by decide)
          have nx6 : x ≠ A 6 k := ne_tag hG.1 g6.1 (by omega)
          have n31 : A 3 0 ≠ A 1 0 := ne_tag g3 g1 (by decide)
          have n36 : A 3 0 ≠ A 6 k := ne_tag g3 g6.1 (by omega)
          have n16 : A 1 0 ≠ A 6 k := ne_tag g1 g6.1 (by omega)
          obtain ⟨hf, hh, hh2⟩ := ((hS k (by omega)).1 hk).2
          refine V_aload_n C dX3_restore_41 (by rfl) ?_
          refine V_aload_n C dX3_restore_42 (by rfl) ?_
          refine V_get C (ci := 3) hx0 rfl wu_X3 3 (by decide) fl_X3_24 rfl (by rfl) dX3_restore_43 ?_
          refine V_iload_n C dX3_restore_46 (by rfl) ?_
          refine N_aldS C hsf (by omega) (by decide) (hsf2 k (by omega)) dX3_restore_47 ?_
          refine V_callV C hx (As := [.ref (A 6 k)]) (c_keptRefersToNewer l hl base D ct sa hC hI hB hk) w_X3_121 hx0 rfl rfl (by decide) (Nat.le_of_ble_eq_true rfl) ⟨by decide, by decide⟩ dX3_restore_48 (by decide) (by decide) (fun _ _ h => h.elim) (fun v9 M2 hv => ?_)
          obtain ⟨rfl, rfl⟩ := hv
          refine VV.eqv (st' := [.int (b2i (isNw σ (gPa σ 8) (gFst σ k) || isNw σ (gPa σ 9) (gFst σ k)))]) rfl rfl ?_
          refine V_if_eq C 57 dX3_restore_51 (by decide) (fun h51 => ?_) (fun h51 => ?_)
          · have hnn : ¬ (isNw σ (gPa σ 8) (gFst σ k) = true ∨ isNw σ (gPa σ 9) (gFst σ k) = true) := by
              rintro (h | h)
              · rw [h] at h51; exact absurd h51 (by simp [b2i])
              · rw [h, Bool.or_true] at h51; exact absurd h51 (by decide)
            refine V_aload_n C dX3_restore_57 (by rfl) ?_
            refine V_aload_n C dX3_restore_58 (by rfl) ?_
            refine V_get C (ci := 3) hx0 rfl wu_X3 3 (by decide) fl_X3_24 rfl (by rfl) dX3_restore_59 ?_
            refine V_iload_n C dX3_restore_62 (by rfl) ?_
            refine N_aldS C hsf (by omega) (by decide) (hsf2 k (by omega)) dX3_restore_63 ?_
            refine V_callV C hx (As := [.ref (A 6 k)]) (c_undoSince l hl base D ct sa hC hI hB hsv hp hh) w_X3_125 hx0 rfl rfl (by decide) (Nat.le_of_ble_eq_true rfl) ⟨by decide, by decide⟩ dX3_restore_64 (by decide) (by decide) (fun _ _ h => h.elim) (fun v9 M3 hv => ?_)
            obtain ⟨rfl, M1', hP, c9, tf', ob', hL, rfl⟩ := hv
            refine VV.eqv (st' := []) rfl rfl ?_
            refine V_aload_n C dX3_restore_67 (by rfl) ?_
            refine V_dup C dX3_restore_68 rfl ?_
            refine V_get C (ci := 3) ((mput_ne nx3).trans (mput_eq _ _ _)) rfl wu_X3 4 (by decide) fl_X3_28 rfl (by rfl) dX3_restore_69 ?_
            refine V_iconst C (1) dX3_restore_72 (by decide) ?_
            refine V_isub C dX3_restore_73 ?_
            refine V_top (y := nI k) (by rw [hsv]; exact nI_pred k) ?_
            refine V_put C (ci := 3) ((mput_ne nx3).trans (mput_eq _ _ _)) rfl wu_X3 4 (by decide) fl_X3_28 rfl tyX3 tyX3_ok nmX3 rfl (by rfl) (by rfl) (Nat.le_of_ble_eq_true rfl) dX3_restore_74 ?_
            refine V_iconst C (1) dX3_restore_77 (by decide) ?_
            exact V_iret C hr (by decide) (by decide) dX3_restore_78 (by
              rw [show oRestore σ n = (1, doRestore σ k) by unfold oRestore; rw [if_neg c1, if_neg (by rw [hlv]; decide), if_neg (by rw [hkk]; exact fun h => h en), if_neg (by rw [hkk]; exact hnn), hkk]]
              refine ⟨rfl, rfl, A, G, ob', restoreC hC hI hsv hp2 hh2 hh hP hL (fun a h1 h2 h3 h4 => ?_) (mput_eq _ _ _) ?_ ?_ ?_, FrC.of (fun a ha => ?_)⟩
              · rw [mput_ne h1, mput_ne h3, mput_ne h1, mput_ne h2, mput_ne h4]
              · rw [mput_ne nx1.symm, mput_ne n31.symm, mput_ne nx1.symm, mput_eq]
              · rw [mput_ne nx3.symm, mput_eq]
              · rw [mput_ne nx6.symm, mput_ne n36.symm, mput_ne nx6.symm, mput_ne n16.symm, mput_eq]
              · have e1 := ne_tag ha hG.1 (by decide)
                have e2 := ne_tag ha g1 (by decide)
                have e3 := ne_tag ha g3 (by decide)
                have e4 := ne_tag ha g6.1 (by omega)
                rw [mput_ne e1, mput_ne e3, mput_ne e1, mput_ne e2, mput_ne e4]
                exact hP.1 a (fun o ho => ⟨ne_tag ha (hG.2.2.2.2.1 o ho).2.1 (by omega), ne_tag ha (hG.2.2.2.2.1 o ho).2.2.2 (by omega)⟩))
          · refine V_bipush C (-4) dX3_restore_54 (by decide) ?_
            exact V_iret C hr (by decide) (by decide) dX3_restore_56 (by rw [show oRestore σ n = (-4, σ) by unfold oRestore; rw [if_neg c1, if_neg (by rw [hlv]; decide), if_neg (by rw [hkk]; exact fun h => h en), if_pos (by rw [hkk]; cases h8 : isNw σ (gPa σ 8) (gFst σ k) with | true => exact Or.inl rfl | false => (cases h9 : isNw σ (gPa σ 9) (gFst σ k) with | true => exact Or.inr rfl | false => rw [h8, h9] at h51; exact absurd rfl h51))]]; exact ⟨rfl, rfl, A, G, ob, hC, FrC.rfl⟩)
        · refine V_bipush C (-3) dX3_restore_38 (by decide) ?_
          exact V_iret C hr (by decide) (by decide) dX3_restore_40 (by rw [show oRestore σ n = (-3, σ) by unfold oRestore; rw [if_neg c1, if_neg (by rw [hlv]; decide), if_pos (fun e => h35 ((nI_leI (by omega) (by omega)).mpr (by have e2 := (nI_eq (by omega) (by omega)).mp (e.trans en.symm); rcases Nat.lt_or_ge k (gSv σ - 1) with q | q; have q2 := m2 k (gSv σ - 1) q (by omega); omega; exact q)))]]; exact ⟨rfl, rfl, A, G, ob, hC, FrC.rfl⟩)
      · refine V_istore_n C dX3_restore_20 (by decide) ?_
        refine V_iload_n C dX3_restore_21 (by rfl) ?_
        refine V_if_ge C 28 dX3_restore_22 (by decide) (fun h_22 => absurd h_22 (by decide)) (fun h_22 => ?_)
        refine V_bipush C (-2) dX3_restore_25 (by decide) ?_
        exact V_iret C hr (by decide) (by decide) dX3_restore_27 (by rw [show oRestore σ n = (-2, σ) by unfold oRestore; rw [if_neg c1, if_pos (by simp only [isLv, List.any_eq_false, List.mem_range, decide_eq_true_eq]; exact fun k hk => hno k hk)]]; exact ⟨rfl, rfl, A, G, ob, hC, FrC.rfl⟩)
    · refine V_iconst C (-1) dX3_restore_13 (by decide) ?_
      exact V_iret C hr (by decide) (by decide) dX3_restore_14 (by rw [show oRestore σ n = (-1, σ) by unfold oRestore; rw [if_pos (Or.inr (Int32.not_le.mp h10))]]; exact ⟨rfl, rfl, A, G, ob, hC, FrC.rfl⟩)
end
section
/-! SaveRestore() -/
def mrows (M : Mem) (rs : List Nat) (e : va_E) : Mem := fun a => if a ∈ rs then some e else M a
def sZ : Sg := (fun _ _ => 0, fun _ _ => 0)
section
variable {p : Program} {l : Launch} {e : Env} {R : Room} {s : State} {m : MethodId} {args : Array Value} {below : List Frame} {meth : Method} {c : Code} {cc : ByteArray} {nL base : Nat} {own : String} {D : va_G} {ct : Nat → ClassId} {sa : Nat → Nat} {Q : State → Prop} {M : Mem} {k n pc : Nat} {lv : List (Nat × Value)} {st : List Value}
set_option maxHeartbeats 4000000 in
theorem V_mna (C : Cx p l s m args meth c cc nL own base D ct sa) {index : Nat} (hl : Cond.classLink own index "[[I" ∈ WL) (hk : k + (1 + 30) ≤ R.cells) (hs : n + (30 + 30 * 8) ≤ R.slots) (hd : decode cc pc = .ok (.multianewarray index 2, 4))
    (kk : ∀ (q : Nat) (r : Nat → Nat), M q = none → (∀ i, i < 30 → M (r i) = none ∧ r i ≠ q) → (∀ i j, i < 30 → j < 30 → r i = r j → i = j) → VV p l e R s m args below meth c nL base D Q (mput (mrows M ((List.range 30).map r) (ar0 ct 8)) q (.inl (ct 5, 30, .inr (.inr (.inr (.inr (fun i => if i < 30 then some (r i) else none))))))) (k + 1 + 30) (n + 30 + 30 * 8) (pc + 4) lv (.ref q :: st)) : VV p l e R s m args below meth c nL base D Q M k n pc lv (.int (nI 8) :: .int (nI 30) :: st) := by
  intro H locs ls hW hS hL
  obtain ⟨L, f9, h1, h2, h3⟩ := id hW
  have hK := C.2.2.2.2.2.1.2.1
  have hcy : s.vm.findClass (FieldType.array .int).toString = some (ct 0) := (hK.2 0 _ rfl).2
  have hcl : (Cond.classLink own index ("[" ++ (FieldType.array .int).toString)).before args s = true := C.2.2.2.2.1 _ hl
  refine va_mna (X := []) (z := (8, .inl (fun _ => 0))) C.1 C.2.1 C.2.2.2.1 hcl C.2.2.2.2.2.1.2.2.2.2.2.2.2.2 (C.2.2.2.2.1 _ ac_int) hcy hK h2 h3 hS C.hA (N' := 30) (K' := 8) (by decide) (by decide) (by decide) (by decide) (by decide) (by decide) (by decide) rfl rfl hk hs (fun c9 => ?_) hd (fun q r cA H1 hinj hnL hK1 hP1 hD1 hS1 => ?_)
  · show ({ cls := c9, slots := Array.replicate 8 (.int 0), vm := .none } : Cell) = _
    rw [arrV_new]
    rfl
  · have e1 : s.vm.findClass ("[" ++ (FieldType.array .int).toString) = some cA := (hK1.2 6 _ rfl).2
    have e2 : s.vm.findClass ("[" ++ (FieldType.array .int).toString) = some (ct 5) := (hK1.2 5 _ rfl).2
    have e3 : cA = ct 5 := Option.some.inj (e1.symm.trans e2)
    subst e3
    have hqL : q ∉ L ++ (List.range 30).map r := by
      intro hq
      obtain ⟨j, hj⟩ := va_pl_get (X := []) (f := vr_up f9 ((List.range 30).map r) (.inl (ct 0, (8, .inl (fun _ => 0))))) hq
      have := hD1.1 0 (j + 1) _ _ rfl hj rfl
      omega
    have hrq : ∀ i, i < 30 → r i ≠ q := fun i hi e => hqL (by rw [← e]; exact List.mem_append_right _ (List.mem_map.mpr ⟨i, List.mem_range.mpr hi, rfl⟩))
    have hnone : ∀ a, a ∉ L → M a = none := fun a ha => by
      cases hq : M a with
      | none => rfl
      | some e => exact absurd (h1 a e hq).1 ha
    have epl : ([(q, (.inl (ct 5, 30, .inr (.inr (.inr (.inr (fun i => if i < 30 then some (r i) else none))))) : va_E))] ++ va_pl (L ++ (List.range 30).map r) (vr_up f9 ((List.range 30).map r) (.inl (ct 0, (8, .inl (fun _ => 0))))) : va_W) = va_pl (q :: (L ++ (List.range 30).map r)) (va_up (vr_up f9 ((List.range 30).map r) (.inl (ct 0, (8, .inl (fun _ => 0))))) q (.inl (ct 5, 30, .inr (.inr (.inr (.inr (fun i => if i < 30 then some (r i) else none))))))) := by
      show (q, _) :: List.map _ _ = (q, _) :: List.map _ _
      rw [va_up_self]
      congr 1
      refine List.map_congr_left (fun a ha => ?_)
      rw [va_up_ne _ _ (fun e => hqL (by rw [← e]; exact ha))]
    refine kk q r (hnone q (fun h => hqL (List.mem_append_left _ h))) (fun i hi => ⟨hnone _ (hnL i hi), hrq i hi⟩) hinj H1 locs ls ⟨q :: (L ++ (List.range 30).map r), va_up (vr_up f9 ((List.range 30).map r) (.inl (ct 0, (8, .inl (fun _ => 0))))) q (.inl (ct 5, 30, .inr (.inr (.inr (.inr (fun i => if i < 30 then some (r i) else none)))))), fun a e9 h => ?_, ?_, ?_⟩ hS1 hL
    · by_cases e : a = q
      · subst e; rw [mput_eq] at h; exact ⟨List.mem_cons_self, by rw [va_up_self]; exact Option.some.inj h⟩
      · rw [mput_ne e] at h
        rw [va_up_ne _ _ e]
        unfold mrows at h
        by_cases g : a ∈ (List.range 30).map r
        · rw [if_pos g] at h
          exact ⟨List.mem_cons_of_mem _ (List.mem_append_right _ g), by rw [vr_up_in g]; exact Option.some.inj h⟩
        · rw [if_neg g] at h
          exact ⟨List.mem_cons_of_mem _ (List.mem_append_left _ (h1 a e9 h).1), by rw [vr_up_ne g]; exact (h1 a e9 h).2⟩
    · rw [← epl]; exact hP1
    · rw [← epl]; exact hD1
/-- a nest mate's private constructor -/
theorem V_callIN (C : Cx p l s m args meth c cc nL own base D ct sa) (hown : own = RX3) {b : Nat} {rm : Room} {post : Option Value → Mem → Prop}
    (hM : CM l yX1_init (.code yX1_init cX1_init 1 none :: WL) rm base D ct sa M [.ref b] post) (hR : rm.frames + 1 ≤ R.frames ∧ 8 + (1 + 11) + rm.locals ≤ R.locals) (hcat : (st.map fun v => v.category).sum ≤ 8) (hf : k + rm.cells ≤ R.cells ∧ n + rm.slots ≤ R.slots) (hd : decode cc pc = .ok (.invokespecial 49, 3))
    (kk : ∀ (v : Option Value) (M' : Mem), post v M' → VV p l e R s m args below meth c nL base D Q M' (k + rm.cells) (n + rm.slots) (pc + 3) lv (v.toList ++ st)) : VV p l e R s m args below meth c nL base D Q M k n pc lv (.ref b :: st) := by
  intro H locs ls hW hS hL
  subst hown
  have hG : GoodIn WL (.code yX1_init cX1_init 1 none :: WL) := good_WL (L := []) co_X1_init (fun w hw => by cases hw)
  have hnw : va_Nw (.methodLinkNest RX3 49 yX1_init RX3) s := C.2.2.2.2.2.1.2.2.2.1 _ (List.mem_of_getElem? (i := 7) rfl)
  have cw := va_cnB (R := R) (s := s) (args := args) (rm := rm) 0 C.2.2.2.2.1 hG rfl rfl rfl hnw (C.2.2.2.2.1 _ ini_X1) (by decide +kernel) hR
  exact VV.runM (va_runIN (Ts := WL) (b := b) (As := []) ⟨C.1, C.2.1, C.2.2.1, C.2.2.2.1, C.2.2.2.2.1⟩ hM ⟨cw, rfl, C.2.2.2.2.1 _ im_X1_init⟩ ⟨PreG.blind, PreG.here C hW hS _⟩ rfl rfl hL.1 rfl (catF hcat) hd hf) hS hL kk
end
theorem tag5 : ∀ (n : Nat) (r : Nat → Nat), (∀ i j, i < n → j < n → r i = r j → i = j) → ∃ G : Nat → Nat, (∀ i, i < n → G (r i) = 16 * i + 5) ∧ ∀ a, (∀ i, i < n → r i ≠ a) → G a = 0 := by
  intro n
  induction n with
  | zero => intro r _; exact ⟨fun _ => 0, fun i h => absurd h (by omega), fun _ _ => rfl⟩
  | succ n ih =>
    intro r hi
    obtain ⟨G, h1, h2⟩ := ih r (fun i j a b e => hi i j (by omega) (by omega) e)
    refine ⟨va_up G (r n) (16 * n + 5), fun i h => ?_, fun a h => ?_⟩
    · by_cases e : i = n
      · subst e; exact va_up_self _ _ _
      · rw [va_up_ne _ _ (fun q => e (hi i n (by omega) (by omega) q))]; exact h1 i (by omega)
    · rw [va_up_ne _ _ (fun q => h n (by omega) q.symm)]; exact h2 a (fun i hi => h i (by omega))
/-- the constructor's picture, with t saves made -/
def CI (ct : Nat → ClassId) (M : Mem) (x t : Nat) (A : Nat → Nat → Nat) (G : Nat → Nat) (Mt : Mem) : Prop :=
  Mt x = some (xE A sZ) ∧ (G x = 13 ∧ (∀ k, 1 ≤ k → k < 5 → G (A k 0) = k) ∧ (∀ k, k < 30 → G (A 5 k) = 16 * k + 5) ∧ (∀ k, k < t → G (A 6 k) = 16 * k + 6 ∧ G (A 7 k) = 16 * k + 7)) ∧
  (∃ tf, Mt (A 1 0) = some (.inl (ct 4, 200, .inr (.inr (.inr (.inr tf)))))) ∧ (∃ sf, Mt (A 2 0) = some (.inl (ct 3, 16, .inr (.inr (.inr (.inr sf))))) ∧ ∀ k, k < t → sf k = some (A 6 k)) ∧ Mt (A 3 0) = some (ar0 ct 10) ∧ (∃ uf, Mt (A 4 0) = some (.inl (ct 5, 30, .inr (.inr (.inr (.inr uf))))) ∧ ∀ k, k < 30 → uf k = some (A 5 k)) ∧ (∀ k, k < 30 → Mt (A 5 k) = some (ar0 ct 8)) ∧
  (∀ k, k < t → Mt (A 6 k) = some (sE A sZ k 0 0 0 none 0) ∧ Mt (A 7 k) = some (ar0 ct 8)) ∧ (∀ a, G a ≠ 0 → (a = x ∨ M a = none) ∧ Mt a ≠ none) ∧ (∀ a, a ≠ x → M a ≠ none → Mt a = M a)
theorem CI.step {ct : Nat → ClassId} {M : Mem} {x t : Nat} {A : Nat → Nat → Nat} {G : Nat → Nat} {Mt M' : Mem} (h : CI ct M x t A G Mt) {q q1 : Nat} (fq : Mt q = none) (f1 : Mt q1 = none) (n1 : q ≠ q1) {sf : Nat → Option Nat} (hsf2 : ∀ k, k < t → sf k = some (A 6 k)) (hold : ∀ a, a ≠ q → a ≠ q1 → a ≠ A 2 0 → M' a = Mt a) (m2 : M' (A 2 0) = some (.inl (ct 3, 16, .inr (.inr (.inr (.inr (va_up sf t (some q)))))))) (mq : M' q = some (.inr (1, [.int 0, .int 0, .int 0, .ref q1, .null, .int 0]))) (m1 : M' q1 = some (ar0 ct 8)) : ∃ A' G', CI ct M x (t + 1) A' G' M' ∧ A' 2 0 = A 2 0 := by
  obtain ⟨h0, ⟨gx, g1, g5, g6⟩, ⟨tf, h1⟩, ⟨sf0, h2, h2b⟩, h3, ⟨uf, h4, h4b⟩, h5, h6, hn, ho⟩ := h
  obtain ⟨A', hA6, hA7, hAo⟩ : ∃ A' : Nat → Nat → Nat, A' 6 t = q ∧ A' 7 t = q1 ∧ ∀ r i, (r ≠ 6 ∧ r ≠ 7) ∨ i ≠ t → A' r i = A r i :=
    ⟨fun r i => if i = t then (if r = 6 then q else if r = 7 then q1 else A r i) else A r i, by simp, by simp, fun r i h => by
      show (if i = t then (if r = 6 then q else if r = 7 then q1 else A r i) else A r i) = A r i
      split
      · rw [if_neg (by omega), if_neg (by omega)]
      · rfl⟩
  have dq : ∀ a, Mt a ≠ none → a ≠ q ∧ a ≠ q1 := fun a h => ⟨fun e => h (by rw [e]; exact fq), fun e => h (by rw [e]; exact f1)⟩
  have nn : ∀ {a : Nat} {e : va_E}, Mt a = some e → Mt a ≠ none := fun h => by rw [h]; exact Option.some_ne_none _
  have Gd : ∀ a, Mt a ≠ none → va_up (va_up G q (16 * t + 6)) q1 (16 * t + 7) a = G a := fun a h => by rw [va_up_ne _ _ (dq a h).2, va_up_ne _ _ (dq a h).1]
  have mv : ∀ {a t9 : Nat} {e : va_E}, Mt a = some e → G a = t9 → t9 ≠ 2 → M' a = some e := fun {a t9 e} h g d => by rw [hold a (dq a (nn h)).1 (dq a (nn h)).2 (ne_tag g (g1 2 (by decide) (by decide)) d)]; exact h
  refine ⟨A', va_up (va_up G q (16 * t + 6)) q1 (16 * t + 7), ⟨?_, ⟨by rw [Gd x (nn h0)]; exact gx, fun k a b => ?_, fun k hk => ?_, fun k hk => ?_⟩, ⟨tf, ?_⟩, ⟨va_up sf t (some q), ?_, fun k hk => ?_⟩, ?_, ⟨uf, ?_, fun k hk => ?_⟩, fun k hk => ?_, fun k hk => ?_, fun a ha => ?_, fun a a1 a2 => ?_⟩, hAo 2 0 (by omega)⟩
  · rw [mv h0 gx (by decide)]; unfold xE; rw [hAo 1 0 (by omega), hAo 2 0 (by omega), hAo 3 0 (by omega), hAo 4 0 (by omega)]
  · rw [hAo k 0 (by omega), Gd]
    · exact g1 k a b
    · rcases (show k = 1 ∨ k = 2 ∨ k = 3 ∨ k = 4 by omega) with rfl | rfl | rfl | rfl
      · exact nn h1
      · exact nn h2
      · exact nn h3
      · exact nn h4
  · rw [hAo 5 k (by omega), Gd _ (nn (h5 k hk))]; exact g5 k hk
  · by_cases e : k = t
    · subst e; rw [hA6, hA7, va_up_self, va_up_ne _ _ n1, va_up_self]; exact ⟨rfl, rfl⟩
    · have hk' : k < t := by omega
      rw [hAo 6 k (by omega), hAo 7 k (by omega), Gd _ (nn (h6 k hk').1), Gd _ (nn (h6 k hk').2)]; exact g6 k hk'
  · rw [hAo 1 0 (by omega)]; exact mv h1 (g1 1 (by decide) (by decide)) (by decide)
  · rw [hAo 2 0 (by omega)]; exact m2
  · by_cases e : k = t
    · subst e; rw [va_up_self, hA6]
    · rw [va_up_ne _ _ e, hAo 6 k (by omega)]; exact hsf2 k (by omega)
  · rw [hAo 3 0 (by omega)]; exact mv h3 (g1 3 (by decide) (by decide)) (by decide)
  · rw [hAo 4 0 (by omega)]; exact mv h4 (g1 4 (by decide) (by decide)) (by decide)
  · rw [hAo 5 k (by omega)]; exact h4b k hk
  · rw [hAo 5 k (by omega)]; exact mv (h5 k hk) (g5 k hk) (by omega)
  · by_cases e : k = t
    · subst e; unfold sE; rw [hA6, hA7]; exact ⟨mq, m1⟩
    · have hk' : k < t := by omega
      unfold sE
      rw [hAo 6 k (by omega), hAo 7 k (by omega)]
      exact ⟨mv (h6 k hk').1 (g6 k hk').1 (by omega), mv (h6 k hk').2 (g6 k hk').2 (by omega)⟩
  · by_cases e1 : a = q1
    · subst e1
      refine ⟨Or.inr ?_, by rw [m1]; exact Option.some_ne_none _⟩
      by_cases hM : M a = none
      · exact hM
      · have := ho a (fun e => (dq x (nn h0)).2 e.symm) hM; rw [f1] at this; exact this.symm
    · by_cases e2 : a = q
      · subst e2
        refine ⟨Or.inr ?_, by rw [mq]; exact Option.some_ne_none _⟩
        by_cases hM : M a = none
        · exact hM
        · have := ho a (fun e => (dq x (nn h0)).1 e.symm) hM; rw [fq] at this; exact this.symm
      · rw [va_up_ne _ _ e1, va_up_ne _ _ e2] at ha
        obtain ⟨p1, p2⟩ := hn a ha
        refine ⟨p1, ?_⟩
        by_cases e3 : a = A 2 0
        · rw [e3, m2]; exact Option.some_ne_none _
        · rw [hold a e2 e1 e3]; exact p2
  · have e0 : Mt a ≠ none := by rw [ho a a1 a2]; exact a2
    have e3 : a ≠ A 2 0 := fun e => by
      have := (hn (A 2 0) (by rw [g1 2 (by decide) (by decide)]; decide)).1
      rw [← e] at this
      rcases this with h | h
      · exact a1 h
      · exact a2 h
    rw [hold a (dq a e0).1 (dq a e0).2 e3]; exact ho a a1 a2
theorem inv_zero : Inv 0 sZ := by
  refine ⟨⟨Nat.le_refl _, Nat.le_refl _, Nat.le_refl _, Nat.zero_le _, Nat.zero_le _, Nat.zero_le _, Nat.le_refl _, Nat.zero_le _⟩, ⟨fun _ => Nat.zero_le _, fun _ => Nat.zero_le _, fun o h => absurd (show (0 : Nat) = 1 from h) (by decide), fun _ _ => ⟨rfl, rfl⟩⟩, ⟨fun k h => absurd h (by exact Nat.not_lt_zero _), fun j k _ h => absurd h (by exact Nat.not_lt_zero _), fun k h => absurd h (by exact Nat.not_lt_zero _), fun j k _ h => absurd h (by exact Nat.not_lt_zero _)⟩, ⟨fun k h => absurd h (by exact Nat.not_lt_zero _), fun j k _ h => absurd h (by exact Nat.not_lt_zero _), fun k h => absurd h (by exact Nat.not_lt_zero _), fun j k _ h => absurd h (by exact Nat.not_lt_zero _), fun _ => rfl, fun h => absurd h (by exact Nat.not_lt_zero _)⟩, ⟨⟨by decide, by decide⟩, fun k r r' h => absurd h (by exact Nat.not_lt_zero _)⟩, fun k r h => absurd h (by exact Nat.not_lt_zero _)⟩
theorem CI.rep {ct : Nat → ClassId} {M : Mem} {x : Nat} {A : Nat → Nat → Nat} {G : Nat → Nat} {Mt : Mem} (h : CI ct M x 16 A G Mt) : RepC ct A G (fun _ => 0) sZ Mt x := by
  obtain ⟨h0, ⟨gx, g1, g5, g6⟩, ⟨tf, h1⟩, ⟨sf0, h2, h2b⟩, h3, ⟨uf, h4, h4b⟩, h5, h6, hn, ho⟩ := h
  exact ⟨h0, ⟨gx, g1, g5, g6, fun o h => absurd (show (0 : Nat) = 1 from h) (by decide), fun r h => absurd h (by exact Nat.not_lt_zero _)⟩, ⟨fun j h => absurd h (by exact Nat.not_lt_zero _), fun i j _ h => absurd h (by exact Nat.not_lt_zero _), fun o h => absurd h (by exact Nat.not_lt_zero _)⟩, ⟨⟨tf, h1, fun j h => absurd h (by exact Nat.not_lt_zero _)⟩, ⟨sf0, h2, h2b⟩, ⟨_, h3, fun _ _ => rfl⟩, ⟨uf, h4, h4b⟩, fun k hk => ⟨_, h5 k hk, fun h => absurd h (by exact Nat.not_lt_zero _)⟩⟩, fun o h => absurd (show (0 : Nat) = 1 from h) (by decide), fun k hk => ⟨fun h => absurd h (by exact Nat.not_lt_zero _), fun _ => ⟨0, 0, 0, _, (h6 k hk).1, (h6 k hk).2⟩⟩, fun k r h => absurd h (by exact Nat.not_lt_zero _)⟩
theorem mrows_in {M : Mem} {r : Nat → Nat} {e : va_E} {i n : Nat} (h : i < n) : mrows M ((List.range n).map r) e (r i) = some e := if_pos (List.mem_map.mpr ⟨i, List.mem_range.mpr h, rfl⟩)
theorem mrows_ne {M : Mem} {r : Nat → Nat} {e : va_E} {n a : Nat} (h : ∀ i, i < n → r i ≠ a) : mrows M ((List.range n).map r) e a = M a := if_neg (fun g => by obtain ⟨i, g1, g2⟩ := List.mem_map.mp g; exact h i (List.mem_range.mp g1) g2)
set_option maxHeartbeats 4000000 in
set_option maxRecDepth 100000 in
theorem c_SRInit (l : Launch) (hl : l.stackTraces = false) (base : Nat) (D : va_G) (ct : Nat → ClassId) (sa : Nat → Nat) {M : Mem} {x : Nat} (hx0 : M x = some (.inr (3, [.null, .int 0, .int 0, .null, .int 0, .int 0, .int 0, .null, .null, .int 0]))) :
    CM l yX3_init (.code yX3_init cX3_init 2 none :: WL) (rmK 2 100 900) base D ct sa M [.ref x] (fun (v9 : Option Value) (M' : Mem) => v9 = none ∧ ∃ A G, RepC ct A G (fun _ => 0) sZ M' x ∧ (∀ a, G a ≠ 0 → a = x ∨ M a = none) ∧ (∀ a, a ≠ x → M a ≠ none → M' a = M a)) := by
  refine CM.of hl (by decide) (Nat.le_of_ble_eq_true rfl) ?_
  intro p e s m below meth c C hr hnm
  have loop : ∀ (d t : Nat) (A : Nat → Nat → Nat) (G : Nat → Nat) (Mt : Mem), 16 ≤ t + d → t ≤ 16 → CI ct M x t A G Mt → VV p l e (rmK 2 100 900) s m ([.ref x] : List Value).toArray below meth c 2 base D (MQ below (PQ base D (fun (v9 : Option Value) (M' : Mem) => v9 = none ∧ ∃ A G, RepC ct A G (fun _ => 0) sZ M' x ∧ (∀ a, G a ≠ 0 → a = x ∨ M a = none) ∧ (∀ a, a ≠ x → M a ≠ none → M' a = M a))) ([.ref x] : List Value).toArray s 100 900 (Ab base)) Mt (50 + 2 * t) (600 + 14 * t) 75 [(0, .ref x), (1, .int (nI t))] [] := by
    intro d
    induction d with
    | zero =>
      intro t A G Mt h1 h2 hI
      have htt : t = 16 := by omega
      refine V_iload_n C dX3_init_75 (by rfl) ?_
      refine V_bipush C (nI 16) dX3_init_76 (by decide) ?_
      refine V_icmp_ge C 100 dX3_init_78 (by decide) (fun h_78 => ?_) (fun h_78 => absurd h_78 (fun h => h ((nI_leI (by decide) (by omega)).mpr (by omega))))
      exact V_vretM C hr (show 50 + 2 * t ≤ 100 by omega) (show 600 + 14 * t ≤ 900 by omega) dX3_init_100 ⟨rfl, A, G, by rw [htt] at hI; exact hI.rep, fun a ha => (hI.2.2.2.2.2.2.2.2.1 a ha).1, hI.2.2.2.2.2.2.2.2.2⟩
    | succ d ih =>
      intro t A G Mt h1 h2 hI
      rcases Nat.lt_or_ge t 16 with ht | ht
      · refine V_iload_n C dX3_init_75 (by rfl) ?_
        refine V_bipush C (nI 16) dX3_init_76 (by decide) ?_
        refine V_icmp_ge C 100 dX3_init_78 (by decide) (fun h_78 => absurd h_78 (fun h => absurd ((nI_leI (by decide) (by omega)).mp h) (by omega))) (fun h_78 => ?_)
        refine V_aload_n C dX3_init_81 (by rfl) ?_
        refine V_get C (ci := 3) hI.1 rfl wu_X3 3 (by decide) fl_X3_24 rfl (by rfl) dX3_init_82 ?_
        refine V_iload_n C dX3_init_85 (by rfl) ?_
        refine V_new C (ci := 1) (fs := [.int 0, .int 0, .int 0, .null, .null, .int 0]) rfl wu_X1 tyX1 tyX1_ok cl_X3_22 in_X1 ini_X1 (fun j hj => by rcases (show j = 0 ∨ j = 1 ∨ j = 2 ∨ j = 3 ∨ j = 4 ∨ j = 5 by omega) with rfl | rfl | rfl | rfl | rfl | rfl <;> rfl) (show 50 + 2 * t + 1 ≤ 100 by omega) (show 600 + 14 * t + 6 ≤ 900 by omega) dX3_init_86 (fun q fq => ?_)
        obtain ⟨sf, h2, h2b⟩ := hI.2.2.2.1
        refine V_dup C dX3_init_89 rfl ?_
        refine V_callIN C rfl (c_SaveInit l hl base D ct sa (mput_eq _ _ _)) (by decide) (Nat.le_of_ble_eq_true rfl) ⟨show 50 + 2 * t + 1 + 1 ≤ 100 by omega, show 600 + 14 * t + 6 + 8 ≤ 900 by omega⟩ dX3_init_90 (fun v9 M2 hv => ?_)
        obtain ⟨rfl, q1, f1, mq, m1, mo⟩ := hv
        obtain ⟨n1, f1⟩ := mput_none f1
        refine VV.eqv (st' := [.ref q, .int (nI t), .ref (A 2 0)]) rfl rfl ?_
        have n2q : A 2 0 ≠ q := some_ne h2 fq
        have n2q1 : A 2 0 ≠ q1 := some_ne h2 f1
        refine N_aastS C mq ((mo _ n2q n2q1).trans ((mput_ne n2q).trans h2)) ht (by decide) dX3_init_93 ?_
        obtain ⟨A', G', hI2, e2⟩ := hI.step (M' := mput M2 (A 2 0) (.inl (ct 3, 16, .inr (.inr (.inr (.inr (va_up sf t (some q)))))))) fq f1 n1.symm h2b (fun a a1 a2 a3 => by rw [mput_ne a3, mo a a1 a2, mput_ne a1]) (mput_eq _ _ _) ((mput_ne n2q.symm).trans mq) ((mput_ne n2q1.symm).trans m1)
        refine V_inc1 C dX3_init_94 (by rfl) (by decide) ?_
        refine V_goto C 75 dX3_init_97 (by decide) ?_
        refine VV.loc [(0, .ref x), (1, .int (nI (t + 1)))] ⟨rfl, (by rw [← nI_1]; rfl), trivial⟩ ?_
        refine VV.widen (k' := 50 + 2 * (t + 1)) (n' := 600 + 14 * (t + 1)) (show 50 + 2 * t + 1 + 1 ≤ _ by omega) (show 600 + 14 * t + 6 + 8 ≤ _ by omega) ?_
        exact ih (t + 1) A' G' _ (by omega) (by omega) hI2
      · exact ih t A G Mt (by omega) h2 hI
  refine V_aload_n C dX3_init_0 (by rfl) ?_
  refine V_objInit C ml_X3_1 im_oi co_oi dX3_init_1 (by decide) (by decide) ?_
  refine V_aload_n C dX3_init_4 (by rfl) ?_
  refine V_sipush C (nI 200) dX3_init_5 (by decide) ?_
  refine V_newT C 200 cl_X3_9 (by decide) (by decide) (by decide) (by decide) (by decide) dX3_init_8 (fun qT fT => ?_)
  have nT : x ≠ qT := some_ne hx0 fT
  refine V_putF C (ci := 3) ((mput_ne nT).trans hx0) rfl wu_X3 0 (by decide) fl_X3_11 rfl tyX3 tyX3_ok nmX3 rfl hnm rfl (by rfl) (by rfl) (Nat.le_of_ble_eq_true rfl) dX3_init_11 ?_
  refine V_aload_n C dX3_init_14 (by rfl) ?_
  refine V_iconst C (0) dX3_init_15 (by decide) ?_
  refine V_put C (ci := 3) (mput_eq _ _ _) rfl wu_X3 1 (by decide) fl_X3_15 rfl tyX3 tyX3_ok nmX3 rfl (by rfl) (by rfl) (Nat.le_of_ble_eq_true rfl) dX3_init_16 ?_
  refine V_aload_n C dX3_init_19 (by rfl) ?_
  refine V_iconst C (0) dX3_init_20 (by decide) ?_
  refine V_put C (ci := 3) (mput_eq _ _ _) rfl wu_X3 2 (by decide) fl_X3_19 rfl tyX3 tyX3_ok nmX3 rfl (by rfl) (by rfl) (Nat.le_of_ble_eq_true rfl) dX3_init_21 ?_
  refine V_aload_n C dX3_init_24 (by rfl) ?_
  refine V_bipush C (nI 16) dX3_init_25 (by decide) ?_
  refine V_newS C 16 cl_X3_22 (by decide) (by decide) (by decide) (by decide) (by decide) dX3_init_27 (fun qS fS => ?_)
  obtain ⟨nS, fS⟩ := mput_none fS
  obtain ⟨-, fS⟩ := mput_none fS
  obtain ⟨-, fS⟩ := mput_none fS
  obtain ⟨nST, fS⟩ := mput_none fS
  refine V_putF C (ci := 3) ((mput_ne nS.symm).trans (mput_eq _ _ _)) rfl wu_X3 3 (by decide) fl_X3_24 rfl tyX3 tyX3_ok nmX3 rfl hnm rfl (by rfl) (by rfl) (Nat.le_of_ble_eq_true rfl) dX3_init_30 ?_
  refine V_aload_n C dX3_init_33 (by rfl) ?_
  refine V_iconst C (0) dX3_init_34 (by decide) ?_
  refine V_put C (ci := 3) (mput_eq _ _ _) rfl wu_X3 4 (by decide) fl_X3_28 rfl tyX3 tyX3_ok nmX3 rfl (by rfl) (by rfl) (Nat.le_of_ble_eq_true rfl) dX3_init_35 ?_
  refine V_aload_n C dX3_init_38 (by rfl) ?_
  refine V_iconst C (0) dX3_init_39 (by decide) ?_
  refine V_put C (ci := 3) (mput_eq _ _ _) rfl wu_X3 5 (by decide) fl_X3_31 rfl tyX3 tyX3_ok nmX3 rfl (by rfl) (by rfl) (Nat.le_of_ble_eq_true rfl) dX3_init_40 ?_
  refine V_aload_n C dX3_init_43 (by rfl) ?_
  refine V_iconst C (0) dX3_init_44 (by decide) ?_
  refine V_put C (ci := 3) (mput_eq _ _ _) rfl wu_X3 6 (by decide) fl_X3_34 rfl tyX3 tyX3_ok nmX3 rfl (by rfl) (by rfl) (Nat.le_of_ble_eq_true rfl) dX3_init_45 ?_
  refine V_aload_n C dX3_init_48 (by rfl) ?_
  refine V_bipush C (nI 10) dX3_init_49 (by decide) ?_
  refine V_newI C 10 ac_int (by decide) (by decide) (by decide) (by decide) (by decide) dX3_init_51 (fun qP fP => ?_)
  obtain ⟨nP, fP⟩ := mput_none fP
  obtain ⟨-, fP⟩ := mput_none fP
  obtain ⟨-, fP⟩ := mput_none fP
  obtain ⟨-, fP⟩ := mput_none fP
  obtain ⟨nPS, fP⟩ := mput_none fP
  obtain ⟨-, fP⟩ := mput_none fP
  obtain ⟨-, fP⟩ := mput_none fP
  obtain ⟨-, fP⟩ := mput_none fP
  obtain ⟨nPT, fP⟩ := mput_none fP
  refine V_putF C (ci := 3) ((mput_ne nP.symm).trans (mput_eq _ _ _)) rfl wu_X3 7 (by decide) fl_X3_37 rfl tyX3 tyX3_ok nmX3 rfl hnm rfl (by rfl) (by rfl) (Nat.le_of_ble_eq_true rfl) dX3_init_53 ?_
  refine VV.eqv (M' := mput (mput (mput (mput M qT (.inl (ct 4, 200, .inr (.inr (.inr (.inr (fun _ => none))))))) qS (.inl (ct 3, 16, .inr (.inr (.inr (.inr (fun _ => none))))))) qP (ar0 ct 10)) x (.inr (3, [.ref qT, .int 0, .int 0, .ref qS, .int 0, .int 0, .int 0, .ref qP, .null, .int 0]))) (by
    funext a
    by_cases e1 : a = x
    · subst e1; simp only [mput_eq]; rfl
    · simp only [mput_ne e1]
      by_cases e2 : a = qP
      · subst e2; simp only [mput_eq]
      · simp only [mput_ne e2, mput_ne e1]
        by_cases e3 : a = qS
        · subst e3; simp only [mput_eq]
        · simp only [mput_ne e3, mput_ne e1]) rfl ?_
  refine V_aload_n C dX3_init_56 (by rfl) ?_
  refine V_bipush C (nI 30) dX3_init_57 (by decide) ?_
  refine V_bipush C (nI 8) dX3_init_59 (by decide) ?_
  refine V_mna C cl_X3_41 (by decide) (by decide) dX3_init_61 (fun qU r fU fr hinj => ?_)
  have out : ∀ a, mput (mput (mput (mput M qT (.inl (ct 4, 200, .inr (.inr (.inr (.inr (fun _ => none))))))) qS (.inl (ct 3, 16, .inr (.inr (.inr (.inr (fun _ => none))))))) qP (ar0 ct 10)) x (.inr (3, [.ref qT, .int 0, .int 0, .ref qS, .int 0, .int 0, .int 0, .ref qP, .null, .int 0])) a = none → a ≠ x ∧ a ≠ qP ∧ a ≠ qS ∧ a ≠ qT ∧ M a = none := by
    intro a h
    obtain ⟨z1, h⟩ := mput_none h
    obtain ⟨z2, h⟩ := mput_none h
    obtain ⟨z3, h⟩ := mput_none h
    obtain ⟨z4, h⟩ := mput_none h
    exact ⟨z1, z2, z3, z4, h⟩
  obtain ⟨u1, u2, u3, u4, u5⟩ := out qU fU
  have o1 := fun i hi => out (r i) (fr i hi).1
  obtain ⟨G0, hg0, hg1⟩ := tag5 30 r hinj
  have hx5 : mput (mrows (mput (mput (mput (mput M qT (.inl (ct 4, 200, .inr (.inr (.inr (.inr (fun _ => none))))))) qS (.inl (ct 3, 16, .inr (.inr (.inr (.inr (fun _ => none))))))) qP (ar0 ct 10)) x (.inr (3, [.ref qT, .int 0, .int 0, .ref qS, .int 0, .int 0, .int 0, .ref qP, .null, .int 0]))) ((List.range 30).map r) (ar0 ct 8)) qU (.inl (ct 5, 30, .inr (.inr (.inr (.inr (fun i => if i < 30 then some (r i) else none)))))) x = some (.inr (3, [.ref qT, .int 0, .int 0, .ref qS, .int 0, .int 0, .int 0, .ref qP, .null, .int 0])) := by
    rw [mput_ne u1.symm, mrows_ne (fun i hi => (o1 i hi).1), mput_eq]
  refine V_putF C (ci := 3) hx5 rfl wu_X3 8 (by decide) fl_X3_43 rfl tyX3 tyX3_ok nmX3 rfl hnm rfl (by rfl) (by rfl) (Nat.le_of_ble_eq_true rfl) dX3_init_65 ?_
  refine V_aload_n C dX3_init_68 (by rfl) ?_
  refine V_iconst C (0) dX3_init_69 (by decide) ?_
  refine V_put C (ci := 3) (mput_eq _ _ _) rfl wu_X3 9 (by decide) fl_X3_46 rfl tyX3 tyX3_ok nmX3 rfl (by rfl) (by rfl) (Nat.le_of_ble_eq_true rfl) dX3_init_70 ?_
  refine V_iconst C (0) dX3_init_73 (by decide) ?_
  refine V_istore_n C dX3_init_74 (by decide) ?_
  refine VV.loc [(0, .ref x), (1, .int (nI 0))] ⟨rfl, rfl, trivial⟩ ?_
  refine VV.widen (k' := 50 + 2 * 0) (n' := 600 + 14 * 0) (by decide) (by decide) ?_
  refine loop 16 0 (fun q i => if q = 1 then qT else if q = 2 then qS else if q = 3 then qP else if q = 4 then qU else if q = 5 then r i else 0) (va_up (va_up (va_up (va_up (va_up G0 x 13) qT 1) qS 2) qP 3) qU 4) _ (by omega) (Nat.zero_le _) ?_
  have gr : ∀ i, i < 30 → va_up (va_up (va_up (va_up (va_up G0 x 13) qT 1) qS 2) qP 3) qU 4 (r i) = 16 * i + 5 := fun i hi => by
    obtain ⟨z1, z2, z3, z4, -⟩ := o1 i hi
    rw [va_up_ne _ _ (fr i hi).2, va_up_ne _ _ z2, va_up_ne _ _ z3, va_up_ne _ _ z4, va_up_ne _ _ z1]; exact hg0 i hi
  have ra : ∀ i, i < 30 → r i ≠ qT ∧ r i ≠ qS ∧ r i ≠ qP ∧ r i ≠ x ∧ r i ≠ qU := fun i hi => ⟨(o1 i hi).2.2.2.1, (o1 i hi).2.2.1, (o1 i hi).2.1, (o1 i hi).1, (fr i hi).2⟩
  refine ⟨mput_eq _ _ _, ⟨?_, fun k h1 h2 => ?_, gr, fun k h => absurd h (by omega)⟩, ⟨(fun _ => none), ?_⟩, ⟨(fun _ => none), ?_, fun k h => absurd h (by omega)⟩, ?_, ⟨(fun i => if i < 30 then some (r i) else none), ?_, fun k hk => if_pos hk⟩, fun k hk => ?_, fun k h => absurd h (by omega), fun a ha => ?_, fun a h1 h2 => ?_⟩
  · rw [va_up_ne _ _ u1.symm, va_up_ne _ _ nP.symm, va_up_ne _ _ nS.symm, va_up_ne _ _ nT, va_up_self]
  · rcases (show k = 1 ∨ k = 2 ∨ k = 3 ∨ k = 4 by omega) with rfl | rfl | rfl | rfl
    · show va_up (va_up (va_up (va_up (va_up G0 x 13) qT 1) qS 2) qP 3) qU 4 qT = 1
      rw [va_up_ne _ _ u4.symm, va_up_ne _ _ nPT.symm, va_up_ne _ _ nST.symm, va_up_self]
    · show va_up (va_up (va_up (va_up (va_up G0 x 13) qT 1) qS 2) qP 3) qU 4 qS = 2
      rw [va_up_ne _ _ u3.symm, va_up_ne _ _ nPS.symm, va_up_self]
    · show va_up (va_up (va_up (va_up (va_up G0 x 13) qT 1) qS 2) qP 3) qU 4 qP = 3
      rw [va_up_ne _ _ u2.symm, va_up_self]
    · show va_up (va_up (va_up (va_up (va_up G0 x 13) qT 1) qS 2) qP 3) qU 4 qU = 4
      rw [va_up_self]
  · show mput _ x _ qT = _
    rw [mput_ne nT.symm, mput_ne nT.symm, mput_ne u4.symm, mrows_ne (fun i hi => (ra i hi).1), mput_ne nT.symm, mput_ne nPT.symm, mput_ne nST.symm, mput_eq]
  · show mput _ x _ qS = _
    rw [mput_ne nS, mput_ne nS, mput_ne u3.symm, mrows_ne (fun i hi => (ra i hi).2.1), mput_ne nS, mput_ne nPS.symm, mput_eq]
  · show mput _ x _ qP = _
    rw [mput_ne nP, mput_ne nP, mput_ne u2.symm, mrows_ne (fun i hi => (ra i hi).2.2.1), mput_ne nP, mput_eq]
  · show mput _ x _ qU = _
    rw [mput_ne u1, mput_ne u1, mput_eq]
  · show mput _ x _ (r k) = _
    rw [mput_ne (ra k hk).2.2.2.1, mput_ne (ra k hk).2.2.2.1, mput_ne (ra k hk).2.2.2.2, mrows_in hk]
  · by_cases e1 : a = x
    · exact ⟨Or.inl e1, by rw [e1, mput_eq]; exact Option.some_ne_none _⟩
    · by_cases e2 : a = qU
      · refine ⟨Or.inr (by rw [e2]; exact u5), ?_⟩
        rw [e2, mput_ne u1, mput_ne u1, mput_eq]; exact Option.some_ne_none _
      · by_cases e3 : ∃ i, i < 30 ∧ r i = a
        · obtain ⟨i, hi, rfl⟩ := e3
          refine ⟨Or.inr (o1 i hi).2.2.2.2, ?_⟩
          rw [mput_ne e1, mput_ne e1, mput_ne e2, mrows_in hi]; exact Option.some_ne_none _
        · have e3' : ∀ i, i < 30 → r i ≠ a := fun i hi e => e3 ⟨i, hi, e⟩
          rw [mput_ne e1, mput_ne e1, mput_ne e2, mrows_ne e3', mput_ne e1]
          by_cases e4 : a = qP
          · refine ⟨Or.inr (by rw [e4]; exact fP), by rw [e4, mput_eq]; exact Option.some_ne_none _⟩
          · rw [mput_ne e4]
            by_cases e5 : a = qS
            · refine ⟨Or.inr (by rw [e5]; exact fS), by rw [e5, mput_eq]; exact Option.some_ne_none _⟩
            · rw [mput_ne e5]
              by_cases e6 : a = qT
              · refine ⟨Or.inr (by rw [e6]; exact fT), by rw [e6, mput_eq]; exact Option.some_ne_none _⟩
              · rw [va_up_ne _ _ e2, va_up_ne _ _ e4, va_up_ne _ _ e5, va_up_ne _ _ e6, va_up_ne _ _ e1, hg1 a e3'] at ha
                exact absurd rfl ha
  · have q1 : ∀ b, M b = none → a ≠ b := fun b hb e => h2 (by rw [e]; exact hb)
    rw [mput_ne h1, mput_ne h1, mput_ne (q1 _ u5), mrows_ne (fun i hi e => q1 _ (o1 i hi).2.2.2.2 e.symm), mput_ne h1, mput_ne (q1 _ fP), mput_ne (q1 _ fS), mput_ne (q1 _ fT)]
end
section
/-! THE REFERENCE: how it holds σ, how a store moves that; its small methods -/
abbrev moL (B : Nat → Nat) (σ : Sg) (th : Int32) : List Value := [.int th, .int (nI (gMade σ)), .int (nI (gAlive σ)), .ref (B 3), .ref (B 4), .ref (B 5), .ref (B 6), .ref (B 7), .int (nI (gSv σ)), .int (nI (gLast σ)), .int (nI (gDeep σ)), .ref (B 11), .ref (B 12), .ref (B 13), .ref (B 14), .ref (B 15), .int (nI (gRows σ)), .ref (B 17), .ref (B 18), .int (nI (gSt σ)), .ref (B 20)]
/-- its arrays: kind, length, what they hold -/
def arM (σ : Sg) : Nat → Option (Nat × Nat × (Nat → Int32))
  | 3 => some (1, 600, nF (σ.1 2))
  | 4 => some (1, 600, nF (σ.1 3))
  | 5 => some (0, 4800, σ.2 0)
  | 6 => some (0, 4800, σ.2 1)
  | 7 => some (0, 10, σ.2 2)
  | 11 => some (0, 16, nF (σ.1 7))
  | 12 => some (0, 16, nF (σ.1 8))
  | 13 => some (0, 16, nF (σ.1 9))
  | 14 => some (0, 16, nF (σ.1 10))
  | 15 => some (0, 160, σ.2 3)
  | 17 => some (0, 600, nF (σ.1 12))
  | 18 => some (0, 600, σ.2 4)
  | 20 => some (0, 240, σ.2 5)
  | _ => none
/-- the reference at mo holds σ, its 'thrown' is th -/
def RepM (ct : Nat → ClassId) (B G : Nat → Nat) (σ : Sg) (th : Int32) (M : Mem) (mo : Nat) : Prop :=
  M mo = some (.inr (4, moL B σ th)) ∧ (G mo = 1 ∧ ∀ a, G a ≠ 0 → M a ≠ none) ∧ ∀ k t N g, arM σ k = some (t, N, g) → G (B k) = k + 2 ∧ ∃ f, M (B k) = some (.inl (ct t, N, .inl f)) ∧ ∀ j, j < N → f j = g j
/-- .. and since M0 only its own cells have changed -/
def HM (ct : Nat → ClassId) (B G : Nat → Nat) (M0 : Mem) (σ : Sg) (th : Int32) (M : Mem) (mo : Nat) : Prop := RepM ct B G σ th M mo ∧ ∀ a, G a = 0 → M a = M0 a
theorem RepM.hold {ct : Nat → ClassId} {B G : Nat → Nat} {σ : Sg} {th : Int32} {M : Mem} {mo : Nat} (h : RepM ct B G σ th M mo) : HM ct B G M σ th M mo := ⟨h, fun _ _ => rfl⟩
theorem HM.trans {ct : Nat → ClassId} {B G : Nat → Nat} {σ σ' : Sg} {th th' : Int32} {M0 M M' : Mem} {mo : Nat} (h : HM ct B G M0 σ th M mo) (h' : HM ct B G M σ' th' M' mo) : HM ct B G M0 σ' th' M' mo := ⟨h'.1, fun a q => (h'.2 a q).trans (h.2 a q)⟩
theorem HM.eq {ct : Nat → ClassId} {B G : Nat → Nat} {σ σ' : Sg} {th : Int32} {M0 M : Mem} {mo : Nat} (h : HM ct B G M0 σ th M mo) (e : σ = σ') : HM ct B G M0 σ' th M mo := by subst e; exact h
def PostM (ct : Nat → ClassId) (B G : Nat → Nat) (M : Mem) (mo : Nat) (r : Nat × Int32 × Sg) : Option Value → Mem → Prop := fun v M' => v = some (.int r.2.1) ∧ HM ct B G M r.2.2 (nI r.1) M' mo
theorem HM.put {ct : Nat → ClassId} {B G : Nat → Nat} {σ σ' : Sg} {th th' : Int32} {M0 M : Mem} {mo : Nat} {e : va_E} (h : HM ct B G M0 σ th M mo) (he : e = .inr (4, moL B σ' th')) (ho : arM σ' = arM σ) : HM ct B G M0 σ' th' (mput M mo e) mo := by
  obtain ⟨⟨h1, ⟨h2, h3⟩, h4⟩, h5⟩ := h
  refine ⟨⟨by rw [mput_eq, he], ⟨h2, fun a ha => ?_⟩, fun k t N g hk => ?_⟩, fun a ha => ?_⟩
  · by_cases q : a = mo
    · rw [q, mput_eq]; exact fun h => by cases h
    · rw [mput_ne q]; exact h3 a ha
  · rw [ho] at hk
    obtain ⟨g1, f, g2, g3⟩ := h4 k t N g hk
    exact ⟨g1, f, by rw [mput_ne (ne_tag g1 h2 (by omega))]; exact g2, g3⟩
  · rw [mput_ne (ne_tag ha h2 (by omega))]; exact h5 a ha
theorem HM.sto {ct : Nat → ClassId} {B G : Nat → Nat} {σ σ' : Sg} {th : Int32} {M0 M : Mem} {mo q t N : Nat} {g g' f : Nat → Int32} (h : HM ct B G M0 σ th M mo) (hk : arM σ q = some (t, N, g)) (hk' : arM σ' q = some (t, N, g')) (hg : ∀ j, j < N → f j = g' j) (ho : ∀ q', q' ≠ q → arM σ' q' = arM σ q') (he : ∀ th, moL B σ' th = moL B σ th) : HM ct B G M0 σ' th (mput M (B q) (.inl (ct t, N, .inl f))) mo := by
  obtain ⟨⟨h1, ⟨h2, h3⟩, h4⟩, h5⟩ := h
  have hq := (h4 q t N g hk).1
  refine ⟨⟨by rw [mput_ne (ne_tag h2 hq (by omega)), he]; exact h1, ⟨h2, fun a ha => ?_⟩, fun k t9 N9 g9 hk9 => ?_⟩, fun a ha => ?_⟩
  · by_cases q9 : a = B q
    · rw [q9, mput_eq]; exact fun h => by cases h
    · rw [mput_ne q9]; exact h3 a ha
  · by_cases e : k = q
    · subst e
      rw [hk'] at hk9
      obtain ⟨rfl, e2⟩ := Prod.mk.inj (Option.some.inj hk9)
      obtain ⟨rfl, rfl⟩ := Prod.mk.inj e2
      exact ⟨hq, f, mput_eq _ _ _, hg⟩
    · rw [ho k e] at hk9
      obtain ⟨g1, f1, g2, g3⟩ := h4 k t9 N9 g9 hk9
      exact ⟨g1, f1, by rw [mput_ne (ne_tag g1 hq (by omega))]; exact g2, g3⟩
  · rw [mput_ne (ne_tag ha hq (by omega))]; exact h5 a ha
theorem ho_3 {σ : Sg} {g : Nat → Nat} : ∀ q, q ≠ 3 → arM (sf σ 2 g) q = arM σ q := by
  intro q h; unfold arM; split <;> first | rfl | exact absurd rfl h
theorem ho_4 {σ : Sg} {g : Nat → Nat} : ∀ q, q ≠ 4 → arM (sf σ 3 g) q = arM σ q := by
  intro q h; unfold arM; split <;> first | rfl | exact absurd rfl h
theorem ho_11 {σ : Sg} {g : Nat → Nat} : ∀ q, q ≠ 11 → arM (sf σ 7 g) q = arM σ q := by
  intro q h; unfold arM; split <;> first | rfl | exact absurd rfl h
theorem ho_12 {σ : Sg} {g : Nat → Nat} : ∀ q, q ≠ 12 → arM (sf σ 8 g) q = arM σ q := by
  intro q h; unfold arM; split <;> first | rfl | exact absurd rfl h
theorem ho_13 {σ : Sg} {g : Nat → Nat} : ∀ q, q ≠ 13 → arM (sf σ 9 g) q = arM σ q := by
  intro q h; unfold arM; split <;> first | rfl | exact absurd rfl h
theorem ho_14 {σ : Sg} {g : Nat → Nat} : ∀ q, q ≠ 14 → arM (sf σ 10 g) q = arM σ q := by
  intro q h; unfold arM; split <;> first | rfl | exact absurd rfl h
theorem ho_17 {σ : Sg} {g : Nat → Nat} : ∀ q, q ≠ 17 → arM (sf σ 12 g) q = arM σ q := by
  intro q h; unfold arM; split <;> first | rfl | exact absurd rfl h
theorem ho_5 {σ : Sg} {g : Nat → Int32} : ∀ q, q ≠ 5 → arM (sw σ 0 g) q = arM σ q := by
  intro q h; unfold arM; split <;> first | rfl | exact absurd rfl h
theorem ho_6 {σ : Sg} {g : Nat → Int32} : ∀ q, q ≠ 6 → arM (sw σ 1 g) q = arM σ q := by
  intro q h; unfold arM; split <;> first | rfl | exact absurd rfl h
theorem ho_7 {σ : Sg} {g : Nat → Int32} : ∀ q, q ≠ 7 → arM (sw σ 2 g) q = arM σ q := by
  intro q h; unfold arM; split <;> first | rfl | exact absurd rfl h
theorem ho_15 {σ : Sg} {g : Nat → Int32} : ∀ q, q ≠ 15 → arM (sw σ 3 g) q = arM σ q := by
  intro q h; unfold arM; split <;> first | rfl | exact absurd rfl h
theorem ho_18 {σ : Sg} {g : Nat → Int32} : ∀ q, q ≠ 18 → arM (sw σ 4 g) q = arM σ q := by
  intro q h; unfold arM; split <;> first | rfl | exact absurd rfl h
theorem ho_20 {σ : Sg} {g : Nat → Int32} : ∀ q, q ≠ 20 → arM (sw σ 5 g) q = arM σ q := by
  intro q h; unfold arM; split <;> first | rfl | exact absurd rfl h
theorem os_0 {σ : Sg} {g : Nat → Nat} : arM (sf σ 0 g) = arM σ := by
  funext q; unfold arM; split <;> rfl
theorem os_1 {σ : Sg} {g : Nat → Nat} : arM (sf σ 1 g) = arM σ := by
  funext q; unfold arM; split <;> rfl
theorem os_4 {σ : Sg} {g : Nat → Nat} : arM (sf σ 4 g) = arM σ := by
  funext q; unfold arM; split <;> rfl
theorem os_5 {σ : Sg} {g : Nat → Nat} : arM (sf σ 5 g) = arM σ := by
  funext q; unfold arM; split <;> rfl
theorem os_6 {σ : Sg} {g : Nat → Nat} : arM (sf σ 6 g) = arM σ := by
  funext q; unfold arM; split <;> rfl
theorem os_11 {σ : Sg} {g : Nat → Nat} : arM (sf σ 11 g) = arM σ := by
  funext q; unfold arM; split <;> rfl
theorem os_13 {σ : Sg} {g : Nat → Nat} : arM (sf σ 13 g) = arM σ := by
  funext q; unfold arM; split <;> rfl
section
variable {p : Program} {l : Launch} {e : Env} {R : Room} {s : State} {m : MethodId} {args : Array Value} {below : List Frame} {meth : Method} {c : Code} {cc : ByteArray} {nL base : Nat} {own : String} {D : va_G} {ct : Nat → ClassId} {sa : Nat → Nat} {Q : State → Prop} {M : Mem} {k n pc : Nat} {lv : List (Nat × Value)} {st : List Value} {B G : Nat → Nat} {σ : Sg} {th : Int32} {M0 : Mem} {mo : Nat}
theorem Y_ild (C : Cx p l s m args meth c cc nL own base D ct sa) {q N j : Nat} {g : Nat → Int32} (hH : HM ct B G M0 σ th M mo) (hk : arM σ q = some (0, N, g)) (hj : j < N) (hN : N < 2 ^ 31) (hd : decode cc pc = .ok (.iaload, 1)) (kk : VV p l e R s m args below meth c nL base D Q M k n (pc + 1) lv (.int (g j) :: st)) : VV p l e R s m args below meth c nL base D Q M k n pc lv (.int (nI j) :: .ref (B q) :: st) := by
  obtain ⟨-, f, h1, h2⟩ := hH.1.2.2 q 0 N g hk
  refine N_iald C h1 hj hN hd ?_
  rw [h2 j hj]; exact kk
theorem Y_zld (C : Cx p l s m args meth c cc nL own base D ct sa) {q N j : Nat} {g : Nat → Int32} (hH : HM ct B G M0 σ th M mo) (hk : arM σ q = some (1, N, g)) (hj : j < N) (hN : N < 2 ^ 31) (hd : decode cc pc = .ok (.baload, 1)) (kk : VV p l e R s m args below meth c nL base D Q M k n (pc + 1) lv (.int (g j) :: st)) : VV p l e R s m args below meth c nL base D Q M k n pc lv (.int (nI j) :: .ref (B q) :: st) := by
  obtain ⟨-, f, h1, h2⟩ := hH.1.2.2 q 1 N g hk
  refine N_zald C h1 hj hN hd ?_
  rw [h2 j hj]; exact kk
theorem Y_ist (C : Cx p l s m args meth c cc nL own base D ct sa) {q N j : Nat} {g g' : Nat → Int32} {x : Int32} (hH : HM ct B G M0 σ th M mo) (σ' : Sg) (hk : arM σ q = some (0, N, g)) (hj : j < N) (hN : N < 2 ^ 31) (hk' : arM σ' q = some (0, N, g')) (hg : ∀ i, i < N → va_up g j x i = g' i) (ho : ∀ q', q' ≠ q → arM σ' q' = arM σ q') (he : ∀ th, moL B σ' th = moL B σ th) (hd : decode cc pc = .ok (.iastore, 1)) (kk : ∀ M' : Mem, HM ct B G M0 σ' th M' mo → VV p l e R s m args below meth c nL base D Q M' k n (pc + 1) lv st) : VV p l e R s m args below meth c nL base D Q M k n pc lv (.int x :: .int (nI j) :: .ref (B q) :: st) := by
  obtain ⟨-, f, h1, h2⟩ := hH.1.2.2 q 0 N g hk
  exact N_iast C h1 hj hN hd (kk _ (hH.sto hk hk' (fun i hi => (upd_up h2 i hi).trans (hg i hi)) ho he))
theorem Y_zst (C : Cx p l s m args meth c cc nL own base D ct sa) {q N j : Nat} {g g' : Nat → Int32} {x : Int32} (hH : HM ct B G M0 σ th M mo) (σ' : Sg) (hk : arM σ q = some (1, N, g)) (hj : j < N) (hN : N < 2 ^ 31) (hk' : arM σ' q = some (1, N, g')) (hg : ∀ i, i < N → va_up g j (vp_nar .boolean x) i = g' i) (ho : ∀ q', q' ≠ q → arM σ' q' = arM σ q') (he : ∀ th, moL B σ' th = moL B σ th) (hd : decode cc pc = .ok (.bastore, 1)) (kk : ∀ M' : Mem, HM ct B G M0 σ' th M' mo → VV p l e R s m args below meth c nL base D Q M' k n (pc + 1) lv st) : VV p l e R s m args below meth c nL base D Q M k n pc lv (.int x :: .int (nI j) :: .ref (B q) :: st) := by
  obtain ⟨-, f, h1, h2⟩ := hH.1.2.2 q 1 N g hk
  exact N_zast C h1 hj hN hd (kk _ (hH.sto hk hk' (fun i hi => (upd_up h2 i hi).trans (hg i hi)) ho he))
theorem Y_put (C : Cx p l s m args meth c cc nL own base D ct sa) {index : Nat} {ref : String} {v : Value} (hH : HM ct B G M0 σ th M mo) (σ' : Sg) (th' : Int32) (j : Nat) (hj : j < 21) (hl : Cond.fieldLink own index ref (TX4 j).2.1 (TX4 j).2.2.1 ∈ WL) (href : (TX4 j).1 = ref) (hfin : (TX4 j).2.2.2 = false) (hn : narrow (tyX4 j) v = v) (hfit : fits (tyX4 j) v = true) (he : (.inr (4, (moL B σ th).set j v) : va_E) = .inr (4, moL B σ' th')) (ho : arM σ' = arM σ) (hd : decode cc pc = .ok (.putfield index, 3)) (kk : ∀ M' : Mem, HM ct B G M0 σ' th' M' mo → VV p l e R s m args below meth c nL base D Q M' k n (pc + 3) lv st) : VV p l e R s m args below meth c nL base D Q M k n pc lv (v :: .ref mo :: st) :=
  V_put C (ci := 4) hH.1.1 rfl wu_X4 j hj hl href tyX4 tyX4_ok nmX4 hfin hn hfit hj hd (kk _ (hH.put he ho))
end
theorem b2i_0 {b : Bool} (h : b2i b = 0) : b = false := by
  cases b
  · rfl
  · exact absurd h (by decide)
theorem b2i_1 {b : Bool} (h : ¬ b2i b = 0) : b = true := by
  cases b
  · exact absurd rfl h
  · rfl
theorem nI_b {n : Nat} (h : n ≤ 1) : (nI n = 0 → n = 0) ∧ (¬ nI n = 0 → n = 1) := by
  have : n = 0 ∨ n = 1 := by omega
  rcases this with rfl | rfl
  · exact ⟨fun _ => rfl, fun h => absurd nI_0 h⟩
  · exact ⟨fun h => absurd h (by decide), fun _ => rfl⟩
theorem nF_up {g : Nat → Nat} {j c : Nat} {x : Int32} (h : x = nI c) (i : Nat) : va_up (nF g) j x i = nF (va_up g j c) i := by
  subst h
  unfold nF va_up
  split <;> rfl
set_option maxHeartbeats 4000000 in
set_option maxRecDepth 100000 in
theorem m_thrown (l : Launch) (hl : l.stackTraces = false) (base : Nat) (D : va_G) (ct : Nat → ClassId) (sa : Nat → Nat) {B G : Nat → Nat} {σ : Sg} {th : Int32} {M : Mem} {mo : Nat} (hR : RepM ct B G σ th M mo) :
    CT l yX4_thrown (.code yX4_thrown cX4_thrown 1 (some .int) :: WL) (rmK 1 0 0) base D ct sa M [.ref mo] (fun v M' => v = some (.int th) ∧ M' = M) noX := by
  refine CT.of hl (by decide) (Nat.le_of_ble_eq_true rfl) ?_
  intro p e s m below meth c C hr hx
  have hH : HM ct B G M σ th M mo := hR.hold
  refine V_aload_n C dX4_thrown_0 (by rfl) ?_
  refine V_get C (ci := 4) hH.1.1 rfl wu_X4 0 (by decide) fl_X4_50 rfl (by rfl) dX4_thrown_1 ?_
  exact V_iret C hr (by decide) (by decide) dX4_thrown_4 ⟨rfl, rfl⟩
set_option maxHeartbeats 4000000 in
set_option maxRecDepth 100000 in
theorem m_isObject (l : Launch) (hl : l.stackTraces = false) (base : Nat) (D : va_G) (ct : Nat → ClassId) (sa : Nat → Nat) {B G : Nat → Nat} {σ : Sg} {th : Int32} {M : Mem} {mo K : Nat} (hR : RepM ct B G σ th M mo) (hI : Inv K σ) (hB : K < 600) (k : Int32) :
    CT l yX4_isObject (.code yX4_isObject cX4_isObject 2 (some .boolean) :: WL) (rmK 1 0 0) base D ct sa M [.ref mo, .int k] (fun v M' => v = some (.int (b2i (isO σ k))) ∧ M' = M) noX := by
  refine CT.of hl (by decide) (Nat.le_of_ble_eq_true rfl) ?_
  intro p e s m below meth c C hr hx
  have hH : HM ct B G M σ th M mo := hR.hold
  obtain ⟨⟨i1, i2, i3, i4, i5, i6, i7, i8⟩, ⟨t1, t2, t3, t4⟩, ⟨s1, s2, s3, s4⟩, ⟨r1, r2, r3, r4, r5, r6⟩, ⟨v1, v2⟩, v3⟩ := id hI
  refine V_iload_n C dX4_isObject_0 (by rfl) ?_
  refine V_if_lt C 25 dX4_isObject_1 (by decide) (fun h_1 => ?_) (fun h_1 => ?_)
  · have hk : isO σ k = false := by simp only [isO, decide_eq_false_iff_not]; rintro ⟨h, _⟩; exact absurd h_1 (Int32.not_lt.mpr h)
    refine V_iconst C (0) dX4_isObject_25 (by decide) ?_
    exact V_zret C hr (by rfl) (by decide) (by decide) dX4_isObject_26 ⟨by rw [hk]; rfl, rfl⟩
  · obtain ⟨o, ho, rfl⟩ := nI_of h_1
    refine V_iload_n C dX4_isObject_4 (by rfl) ?_
    refine V_aload_n C dX4_isObject_5 (by rfl) ?_
    refine V_get C (ci := 4) hH.1.1 rfl wu_X4 1 (by decide) fl_X4_54 rfl (by rfl) dX4_isObject_6 ?_
    refine V_icmp_ge C 25 dX4_isObject_9 (by decide) (fun h_9 => ?_) (fun h_9 => ?_)
    · have hk : isO σ (nI o) = false := by simp only [isO, decide_eq_false_iff_not, nI_clamp ho]; rintro ⟨_, h, _⟩; exact absurd ((nI_leI (by omega) ho).mp h_9) (by omega)
      refine V_iconst C (0) dX4_isObject_25 (by decide) ?_
      exact V_zret C hr (by rfl) (by decide) (by decide) dX4_isObject_26 ⟨by rw [hk]; rfl, rfl⟩
    · have ho2 : o < gMade σ := Nat.lt_of_not_le (fun h => h_9 (nI_le h ho))
      refine V_aload_n C dX4_isObject_12 (by rfl) ?_
      refine V_get C (ci := 4) hH.1.1 rfl wu_X4 3 (by decide) fl_X4_7 rfl (by rfl) dX4_isObject_13 ?_
      refine V_iload_n C dX4_isObject_16 (by rfl) ?_
      refine Y_zld C hH rfl (by omega) (by decide) dX4_isObject_17 ?_
      refine V_if_eq C 25 dX4_isObject_18 (by decide) (fun h_18 => ?_) (fun h_18 => ?_)
      · have hk : isO σ (nI o) = false := by simp only [isO, decide_eq_false_iff_not, nI_clamp ho]; rintro ⟨_, _, h⟩; have := (nI_b (t1 o)).1 h_18; omega
        refine V_iconst C (0) dX4_isObject_25 (by decide) ?_
        exact V_zret C hr (by rfl) (by decide) (by decide) dX4_isObject_26 ⟨by rw [hk]; rfl, rfl⟩
      · have hk : isO σ (nI o) = true := isO_nI ho2 ((nI_b (t1 o)).2 h_18) (by omega)
        refine V_iconst C (1) dX4_isObject_21 (by decide) ?_
        refine V_goto C 26 dX4_isObject_22 (by decide) ?_
        exact V_zret C hr (by rfl) (by decide) (by decide) dX4_isObject_26 ⟨by rw [hk]; rfl, rfl⟩
set_option maxHeartbeats 4000000 in
set_option maxRecDepth 100000 in
theorem m_isValue (l : Launch) (hl : l.stackTraces = false) (base : Nat) (D : va_G) (ct : Nat → ClassId) (sa : Nat → Nat) {B G : Nat → Nat} {σ : Sg} {th : Int32} {M : Mem} {mo K : Nat} (hR : RepM ct B G σ th M mo) (hI : Inv K σ) (hB : K < 600) (v : Int32) :
    CT l yX4_isValue (.code yX4_isValue cX4_isValue 2 (some .boolean) :: WL) (rmK 2 0 0) base D ct sa M [.ref mo, .int v] (fun v9 M' => v9 = some (.int (b2i (isV σ v))) ∧ M' = M) noX := by
  refine CT.of hl (by decide) (Nat.le_of_ble_eq_true rfl) ?_
  intro p e s m below meth c C hr hx
  have hH : HM ct B G M σ th M mo := hR.hold
  obtain ⟨⟨i1, i2, i3, i4, i5, i6, i7, i8⟩, ⟨t1, t2, t3, t4⟩, ⟨s1, s2, s3, s4⟩, ⟨r1, r2, r3, r4, r5, r6⟩, ⟨v1, v2⟩, v3⟩ := id hI
  refine V_iload_n C dX4_isValue_0 (by rfl) ?_
  refine V_if_ge C 14 dX4_isValue_1 (by decide) (fun h_1 => ?_) (fun h_1 => ?_)
  · have hk : isV σ v = true := by simp [isV, h_1]
    refine V_iconst C (1) dX4_isValue_14 (by decide) ?_
    refine V_goto C 19 dX4_isValue_15 (by decide) ?_
    exact V_zret C hr (by rfl) (by decide) (by decide) dX4_isValue_19 ⟨by rw [hk]; rfl, rfl⟩
  · refine V_aload_n C dX4_isValue_4 (by rfl) ?_
    refine V_iconst C (-1) dX4_isValue_5 (by decide) ?_
    refine V_iload_n C dX4_isValue_6 (by rfl) ?_
    refine V_isub C dX4_isValue_7 ?_
    refine V_callV C hx (As := [.int (-1 - v)]) (m_isObject l hl base D ct sa hR hI hB (-1 - v)) w_X4_57 hH.1.1 rfl rfl (by decide) (Nat.le_of_ble_eq_true rfl) ⟨by decide, by decide⟩ dX4_isValue_8 (by decide) (by decide) (fun _ _ h => h) (fun v9 M9 hv9 => ?_)
    obtain ⟨rfl, rfl⟩ := hv9
    refine VV.eqv (st' := [.int (b2i (isO σ (-1 - v)))]) rfl rfl ?_
    refine V_if_eq C 18 dX4_isValue_11 (by decide) (fun h_11 => ?_) (fun h_11 => ?_)
    · have hk : isV σ v = false := by simp [isV, h_1, b2i_0 h_11]
      refine V_iconst C (0) dX4_isValue_18 (by decide) ?_
      exact V_zret C hr (by rfl) (by decide) (by decide) dX4_isValue_19 ⟨by rw [hk]; rfl, rfl⟩
    · have hk : isV σ v = true := by simp [isV, b2i_1 h_11]
      refine V_iconst C (1) dX4_isValue_14 (by decide) ?_
      refine V_goto C 19 dX4_isValue_15 (by decide) ?_
      exact V_zret C hr (by rfl) (by decide) (by decide) dX4_isValue_19 ⟨by rw [hk]; rfl, rfl⟩
set_option maxHeartbeats 4000000 in
set_option maxRecDepth 100000 in
theorem m_isEight (l : Launch) (hl : l.stackTraces = false) (base : Nat) (D : va_G) (ct : Nat → ClassId) (sa : Nat → Nat) (M : Mem) (i : Int32) :
    CT l yX4_isEight (.code yX4_isEight cX4_isEight 1 (some .boolean) :: WL) (rmK 1 0 0) base D ct sa M [.int i] (fun v9 M' => v9 = some (.int (b2i (isN 8 i))) ∧ M' = M) noX := by
  refine CT.of hl (by decide) (Nat.le_of_ble_eq_true rfl) ?_
  intro p e s m below meth c C hr hx
  refine V_iload_n C dX4_isEight_0 (by rfl) ?_
  refine V_if_lt C 14 dX4_isEight_1 (by decide) (fun h_1 => ?_) (fun h_1 => ?_)
  · have hk : isN 8 i = false := by simp only [isN, decide_eq_false_iff_not]; rintro ⟨h, _⟩; exact absurd h_1 (Int32.not_lt.mpr h)
    refine V_iconst C (0) dX4_isEight_14 (by decide) ?_
    exact V_zret C hr (by rfl) (by decide) (by decide) dX4_isEight_15 ⟨by rw [hk]; rfl, rfl⟩
  · obtain ⟨j, hj, rfl⟩ := nI_of h_1
    refine V_iload_n C dX4_isEight_4 (by rfl) ?_
    refine V_bipush C (nI 8) dX4_isEight_5 (by decide) ?_
    refine V_icmp_ge C 14 dX4_isEight_7 (by decide) (fun h_7 => ?_) (fun h_7 => ?_)
    · have hk : isN 8 (nI j) = false := by simp only [isN, decide_eq_false_iff_not, nI_clamp hj]; rintro ⟨_, h⟩; exact absurd ((nI_leI (by decide) hj).mp h_7) (by omega)
      refine V_iconst C (0) dX4_isEight_14 (by decide) ?_
      exact V_zret C hr (by rfl) (by decide) (by decide) dX4_isEight_15 ⟨by rw [hk]; rfl, rfl⟩
    · have hk : isN 8 (nI j) = true := by simp only [isN, decide_eq_true_eq, nI_clamp hj]; exact ⟨nI_pos' hj, Nat.lt_of_not_le (fun h => h_7 (nI_le h hj))⟩
      refine V_iconst C (1) dX4_isEight_10 (by decide) ?_
      refine V_goto C 15 dX4_isEight_11 (by decide) ?_
      exact V_zret C hr (by rfl) (by decide) (by decide) dX4_isEight_15 ⟨by rw [hk]; rfl, rfl⟩
set_option maxHeartbeats 4000000 in
set_option maxRecDepth 100000 in
theorem m_isParameter (l : Launch) (hl : l.stackTraces = false) (base : Nat) (D : va_G) (ct : Nat → ClassId) (sa : Nat → Nat) (M : Mem) (i : Int32) :
    CT l yX4_isParameter (.code yX4_isParameter cX4_isParameter 1 (some .boolean) :: WL) (rmK 1 0 0) base D ct sa M [.int i] (fun v9 M' => v9 = some (.int (b2i (isN 10 i))) ∧ M' = M) noX := by
  refine CT.of hl (by decide) (Nat.le_of_ble_eq_true rfl) ?_
  intro p e s m below meth c C hr hx
  refine V_iload_n C dX4_isParameter_0 (by rfl) ?_
  refine V_if_lt C 14 dX4_isParameter_1 (by decide) (fun h_1 => ?_) (fun h_1 => ?_)
  · have hk : isN 10 i = false := by simp only [isN, decide_eq_false_iff_not]; rintro ⟨h, _⟩; exact absurd h_1 (Int32.not_lt.mpr h)
    refine V_iconst C (0) dX4_isParameter_14 (by decide) ?_
    exact V_zret C hr (by rfl) (by decide) (by decide) dX4_isParameter_15 ⟨by rw [hk]; rfl, rfl⟩
  · obtain ⟨j, hj, rfl⟩ := nI_of h_1
    refine V_iload_n C dX4_isParameter_4 (by rfl) ?_
    refine V_bipush C (nI 10) dX4_isParameter_5 (by decide) ?_
    refine V_icmp_ge C 14 dX4_isParameter_7 (by decide) (fun h_7 => ?_) (fun h_7 => ?_)
    · have hk : isN 10 (nI j) = false := by simp only [isN, decide_eq_false_iff_not, nI_clamp hj]; rintro ⟨_, h⟩; exact absurd ((nI_leI (by decide) hj).mp h_7) (by omega)
      refine V_iconst C (0) dX4_isParameter_14 (by decide) ?_
      exact V_zret C hr (by rfl) (by decide) (by decide) dX4_isParameter_15 ⟨by rw [hk]; rfl, rfl⟩
    · have hk : isN 10 (nI j) = true := by simp only [isN, decide_eq_true_eq, nI_clamp hj]; exact ⟨nI_pos' hj, Nat.lt_of_not_le (fun h => h_7 (nI_le h hj))⟩
      refine V_iconst C (1) dX4_isParameter_10 (by decide) ?_
      refine V_goto C 15 dX4_isParameter_11 (by decide) ?_
      exact V_zret C hr (by rfl) (by decide) (by decide) dX4_isParameter_15 ⟨by rw [hk]; rfl, rfl⟩
set_option maxHeartbeats 4000000 in
set_option maxRecDepth 100000 in
theorem m_isNewer (l : Launch) (hl : l.stackTraces = false) (base : Nat) (D : va_G) (ct : Nat → ClassId) (sa : Nat → Nat) {B G : Nat → Nat} {σ : Sg} {th : Int32} {M : Mem} {mo K : Nat} (hR : RepM ct B G σ th M mo) (hI : Inv K σ) (hB : K < 600) {v : Int32} (hv : isV σ v = true) {f : Nat} (hf : f ≤ 600) :
    CT l yX4_isNewer (.code yX4_isNewer cX4_isNewer 3 (some .boolean) :: WL) (rmK 1 0 0) base D ct sa M [.ref mo, .int v, .int (nI f)] (fun v9 M' => v9 = some (.int (b2i (isNw σ v f))) ∧ M' = M) noX := by
  refine CT.of hl (by decide) (Nat.le_of_ble_eq_true rfl) ?_
  intro p e s m below meth c C hr hx
  have hH : HM ct B G M σ th M mo := hR.hold
  obtain ⟨⟨i1, i2, i3, i4, i5, i6, i7, i8⟩, ⟨t1, t2, t3, t4⟩, ⟨s1, s2, s3, s4⟩, ⟨r1, r2, r3, r4, r5, r6⟩, ⟨v1, v2⟩, v3⟩ := id hI
  refine V_iload_n C dX4_isNewer_0 (by rfl) ?_
  refine V_if_ge C 26 dX4_isNewer_1 (by decide) (fun h_1 => ?_) (fun h_1 => ?_)
  · have hk : isNw σ v f = false := by simp only [isNw, decide_eq_false_iff_not]; rintro ⟨h, _⟩; exact absurd h (Int32.not_lt.mpr h_1)
    refine V_iconst C (0) dX4_isNewer_26 (by decide) ?_
    exact V_zret C hr (by rfl) (by decide) (by decide) dX4_isNewer_27 ⟨by rw [hk]; rfl, rfl⟩
  · have hv0 : v < 0 := Int32.not_le.mp h_1
    have hvo : isO σ (-1 - v) = true := by simpa [isV, h_1] using hv
    obtain ⟨o, eo, ho, ht, ec⟩ := isO_of hvo (by omega)
    have er : rfOf v = o := ec
    refine V_iconst C (-1) dX4_isNewer_4 (by decide) ?_
    refine V_iload_n C dX4_isNewer_5 (by rfl) ?_
    refine V_isub C dX4_isNewer_6 ?_
    refine V_top eo ?_
    refine V_iload_n C dX4_isNewer_7 (by rfl) ?_
    refine V_icmp_lt C 26 dX4_isNewer_8 (by decide) (fun h_8 => ?_) (fun h_8 => ?_)
    · have hk : isNw σ v f = false := by simp only [isNw, decide_eq_false_iff_not, er]; rintro ⟨_, h, _⟩; exact absurd ((nI_ltI (by omega) (by omega)).mp h_8) (by omega)
      refine V_iconst C (0) dX4_isNewer_26 (by decide) ?_
      exact V_zret C hr (by rfl) (by decide) (by decide) dX4_isNewer_27 ⟨by rw [hk]; rfl, rfl⟩
    · have hf9 : f ≤ o := Nat.le_of_not_lt (fun h => h_8 (nI_lt h (by omega)))
      refine V_aload_n C dX4_isNewer_11 (by rfl) ?_
      refine V_get C (ci := 4) hH.1.1 rfl wu_X4 4 (by decide) fl_X4_13 rfl (by rfl) dX4_isNewer_12 ?_
      refine V_iconst C (-1) dX4_isNewer_15 (by decide) ?_
      refine V_iload_n C dX4_isNewer_16 (by rfl) ?_
      refine V_isub C dX4_isNewer_17 ?_
      refine V_top eo ?_
      refine Y_zld C hH rfl (by omega) (by decide) dX4_isNewer_18 ?_
      refine V_if_ne C 26 dX4_isNewer_19 (by decide) (fun h_19 => ?_) (fun h_19 => ?_)
      · have hk : isNw σ v f = false := by simp only [isNw, decide_eq_false_iff_not, er]; rintro ⟨_, _, h⟩; have := (nI_b (t2 o)).2 h_19; omega
        refine V_iconst C (0) dX4_isNewer_26 (by decide) ?_
        exact V_zret C hr (by rfl) (by decide) (by decide) dX4_isNewer_27 ⟨by rw [hk]; rfl, rfl⟩
      · have hk : isNw σ v f = true := by simp only [isNw, decide_eq_true_eq, er]; exact ⟨hv0, hf9, (nI_b (t2 o)).1 h_19⟩
        refine V_iconst C (1) dX4_isNewer_22 (by decide) ?_
        refine V_goto C 27 dX4_isNewer_23 (by decide) ?_
        exact V_zret C hr (by rfl) (by decide) (by decide) dX4_isNewer_27 ⟨by rw [hk]; rfl, rfl⟩
set_option maxHeartbeats 4000000 in
set_option maxRecDepth 100000 in
theorem m_ownStates (l : Launch) (hl : l.stackTraces = false) (base : Nat) (D : va_G) (ct : Nat → ClassId) (sa : Nat → Nat) {B G : Nat → Nat} {σ : Sg} {th : Int32} {M : Mem} {mo : Nat} (hR : RepM ct B G σ th M mo) (i5 : gSv σ ≤ 16) (hle : 0 < gSv σ → gSb σ (gSv σ - 1) ≤ gSt σ) :
    CT l yX4_ownStates (.code yX4_ownStates cX4_ownStates 1 (some .int) :: WL) (rmK 1 0 0) base D ct sa M [.ref mo] (fun v9 M' => v9 = some (.int (nI (ownS σ))) ∧ M' = M) noX := by
  refine CT.of hl (by decide) (Nat.le_of_ble_eq_true rfl) ?_
  intro p e s m below meth c C hr hx
  have hH : HM ct B G M σ th M mo := hR.hold
  refine V_aload_n C dX4_ownStates_0 (by rfl) ?_
  refine V_get C (ci := 4) hH.1.1 rfl wu_X4 8 (by decide) fl_X4_64 rfl (by rfl) dX4_ownStates_1 ?_
  refine V_if_ne C 14 dX4_ownStates_4 (by decide) (fun h_4 => ?_) (fun h_4 => ?_)
  · have h0 : 0 < gSv σ := Nat.pos_of_ne_zero (fun h => h_4 (by rw [h]; exact nI_0))
    refine V_aload_n C dX4_ownStates_14 (by rfl) ?_
    refine V_get C (ci := 4) hH.1.1 rfl wu_X4 19 (by decide) fl_X4_83 rfl (by rfl) dX4_ownStates_15 ?_
    refine V_aload_n C dX4_ownStates_18 (by rfl) ?_
    refine V_get C (ci := 4) hH.1.1 rfl wu_X4 14 (by decide) fl_X4_35 rfl (by rfl) dX4_ownStates_19 ?_
    refine V_aload_n C dX4_ownStates_22 (by rfl) ?_
    refine V_get C (ci := 4) hH.1.1 rfl wu_X4 8 (by decide) fl_X4_64 rfl (by rfl) dX4_ownStates_23 ?_
    refine V_iconst C (1) dX4_ownStates_26 (by decide) ?_
    refine V_isub C dX4_ownStates_27 ?_
    refine V_top (pk_sub (b := 1) h0) ?_
    refine Y_ild C hH rfl (by omega) (by decide) dX4_ownStates_28 ?_
    refine V_isub C dX4_ownStates_29 ?_
    refine V_top (pk_sub (hle h0)) ?_
    have hk : ownS σ = gSt σ - gSb σ (gSv σ - 1) := by unfold ownS; rw [if_neg (by omega)]
    exact V_iret C hr (by decide) (by decide) dX4_ownStates_30 ⟨by rw [hk], rfl⟩
  · have h0 : gSv σ = 0 := Nat.eq_zero_of_not_pos (fun h => nI_ne0 h (by omega) h_4)
    have hk : ownS σ = gSt σ := by unfold ownS; rw [if_pos h0]
    refine V_aload_n C dX4_ownStates_7 (by rfl) ?_
    refine V_get C (ci := 4) hH.1.1 rfl wu_X4 19 (by decide) fl_X4_83 rfl (by rfl) dX4_ownStates_8 ?_
    refine V_goto C 30 dX4_ownStates_11 (by decide) ?_
    exact V_iret C hr (by decide) (by decide) dX4_ownStates_30 ⟨by rw [hk], rfl⟩
set_option maxHeartbeats 4000000 in
set_option maxRecDepth 100000 in
theorem m_deepest (l : Launch) (hl : l.stackTraces = false) (base : Nat) (D : va_G) (ct : Nat → ClassId) (sa : Nat → Nat) {B G : Nat → Nat} {σ : Sg} {th : Int32} {M : Mem} {mo K : Nat} (hR : RepM ct B G σ th M mo) (hI : Inv K σ) (hB : K < 600) :
    CT l yX4_deepest (.code yX4_deepest cX4_deepest 1 (some .int) :: WL) (rmK 1 0 0) base D ct sa M [.ref mo] (PostM ct B G M mo (0, nI (gDeep σ), σ)) noX := by
  refine CT.of hl (by decide) (Nat.le_of_ble_eq_true rfl) ?_
  intro p e s m below meth c C hr hx
  have hH : HM ct B G M σ th M mo := hR.hold
  obtain ⟨⟨i1, i2, i3, i4, i5, i6, i7, i8⟩, ⟨t1, t2, t3, t4⟩, ⟨s1, s2, s3, s4⟩, ⟨r1, r2, r3, r4, r5, r6⟩, ⟨v1, v2⟩, v3⟩ := id hI
  refine V_aload_n C dX4_deepest_0 (by rfl) ?_
  refine V_iconst C (0) dX4_deepest_1 (by decide) ?_
  refine Y_put C hH (σ) (0) 0 (by decide) fl_X4_50 rfl rfl (by rfl) (by rfl) (by rfl) rfl dX4_deepest_2 (fun M1 hH => ?_)
  refine V_aload_n C dX4_deepest_5 (by rfl) ?_
  refine V_get C (ci := 4) hH.1.1 rfl wu_X4 10 (by decide) fl_X4_86 rfl (by rfl) dX4_deepest_6 ?_
  exact V_iret C hr (by decide) (by decide) dX4_deepest_9 ⟨rfl, hH⟩
set_option maxHeartbeats 4000000 in
set_option maxRecDepth 100000 in
theorem m_used (l : Launch) (hl : l.stackTraces = false) (base : Nat) (D : va_G) (ct : Nat → ClassId) (sa : Nat → Nat) {B G : Nat → Nat} {σ : Sg} {th : Int32} {M : Mem} {mo K : Nat} (hR : RepM ct B G σ th M mo) (hI : Inv K σ) (hB : K < 600) :
    CT l yX4_used (.code yX4_used cX4_used 1 (some .int) :: WL) (rmK 1 0 0) base D ct sa M [.ref mo] (PostM ct B G M mo (0, oUsed σ, σ)) noX := by
  refine CT.of hl (by decide) (Nat.le_of_ble_eq_true rfl) ?_
  intro p e s m below meth c C hr hx
  have hH : HM ct B G M σ th M mo := hR.hold
  obtain ⟨⟨i1, i2, i3, i4, i5, i6, i7, i8⟩, ⟨t1, t2, t3, t4⟩, ⟨s1, s2, s3, s4⟩, ⟨r1, r2, r3, r4, r5, r6⟩, ⟨v1, v2⟩, v3⟩ := id hI
  refine V_aload_n C dX4_used_0 (by rfl) ?_
  refine V_iconst C (0) dX4_used_1 (by decide) ?_
  refine Y_put C hH (σ) (0) 0 (by decide) fl_X4_50 rfl rfl (by rfl) (by rfl) (by rfl) rfl dX4_used_2 (fun M1 hH => ?_)
  refine V_bipush C (nI 12) dX4_used_5 (by decide) ?_
  refine V_aload_n C dX4_used_7 (by rfl) ?_
  refine V_get C (ci := 4) hH.1.1 rfl wu_X4 2 (by decide) fl_X4_61 rfl (by rfl) dX4_used_8 ?_
  refine V_imul C dX4_used_11 ?_
  refine V_iconst C (nI 3) dX4_used_12 (by decide) ?_
  refine V_aload_n C dX4_used_13 (by rfl) ?_
  refine V_get C (ci := 4) hH.1.1 rfl wu_X4 16 (by decide) fl_X4_67 rfl (by rfl) dX4_used_14 ?_
  refine V_imul C dX4_used_17 ?_
  refine V_iadd C dX4_used_18 ?_
  refine V_bipush C (nI 6) dX4_used_19 (by decide) ?_
  refine V_aload_n C dX4_used_21 (by rfl) ?_
  refine V_get C (ci := 4) hH.1.1 rfl wu_X4 8 (by decide) fl_X4_64 rfl (by rfl) dX4_used_22 ?_
  refine V_imul C dX4_used_25 ?_
  refine V_iadd C dX4_used_26 ?_
  refine V_bipush C (nI 10) dX4_used_27 (by decide) ?_
  refine V_aload_n C dX4_used_29 (by rfl) ?_
  refine V_get C (ci := 4) hH.1.1 rfl wu_X4 19 (by decide) fl_X4_83 rfl (by rfl) dX4_used_30 ?_
  refine V_imul C dX4_used_33 ?_
  refine V_iadd C dX4_used_34 ?_
  refine V_top (y := oUsed σ) ?_ ?_
  · rw [pk_mul, pk_mul, pk_mul, pk_mul, nI_add, nI_add, nI_add]; rfl
  exact V_iret C hr (by decide) (by decide) dX4_used_35 ⟨rfl, hH⟩
end
section
/-! the reference: get, stateOf, state, bytes, old, object -/
set_option maxHeartbeats 4000000 in
set_option maxRecDepth 100000 in
theorem m_get (l : Launch) (hl : l.stackTraces = false) (base : Nat) (D : va_G) (ct : Nat → ClassId) (sa : Nat → Nat) {B G : Nat → Nat} {σ : Sg} {th : Int32} {M : Mem} {mo K : Nat} (hR : RepM ct B G σ th M mo) (hI : Inv K σ) (hB : K < 600) (k i : Int32) :
    CT l yX4_get (.code yX4_get cX4_get 3 (some .int) :: WL) (rmK 2 0 0) base D ct sa M [.ref mo, .int k, .int i] (PostM ct B G M mo (oGet σ k i)) noX := by
  refine CT.of hl (by decide) (Nat.le_of_ble_eq_true rfl) ?_
  intro p e s m below meth c C hr hx
  have hH : HM ct B G M σ th M mo := hR.hold
  obtain ⟨⟨i1, i2, i3, i4, i5, i6, i7, i8⟩, ⟨t1, t2, t3, t4⟩, ⟨s1, s2, s3, s4⟩, ⟨r1, r2, r3, r4, r5, r6⟩, ⟨v1, v2⟩, v3⟩ := id hI
  have tlE : ∀ cd : Nat, 0 < cd → cd ≤ 3 → oGet σ k i = (cd, 0, σ) → VV p l e (rmK 2 0 0) s m ([.ref mo, .int k, .int i] : List Value).toArray below meth c 3 base D (QB base D (PostM ct B G M mo (oGet σ k i)) noX below ([.ref mo, .int k, .int i] : List Value).toArray s 0 0) M 0 0 25 [(0, .ref mo), (1, .int k), (2, .int i)] [.int (nI cd), .ref mo] := by
    intro cd hc0 hc3 hce
    refine Y_put C hH (σ) (nI cd) 0 (by decide) fl_X4_50 rfl rfl (by rfl) (by rfl) (by rfl) rfl dX4_get_25 (fun M1 hH => ?_)
    refine V_aload_n C dX4_get_28 (by rfl) ?_
    refine V_get C (ci := 4) hH.1.1 rfl wu_X4 0 (by decide) fl_X4_50 rfl (by rfl) dX4_get_29 ?_
    refine V_if_le C 39 dX4_get_32 (by decide) (fun h_32 => absurd h_32 (nI_nle hc0 (by omega))) (fun h_32 => ?_)
    refine V_iconst C (0) dX4_get_35 (by decide) ?_
    refine V_goto C 50 dX4_get_36 (by decide) ?_
    exact V_iret C hr (by decide) (by decide) dX4_get_50 ⟨by rw [hce], by rw [hce]; exact hH⟩
  refine V_aload_n C dX4_get_0 (by rfl) ?_
  refine V_aload_n C dX4_get_1 (by rfl) ?_
  refine V_iload_n C dX4_get_2 (by rfl) ?_
  refine V_callV C hx (As := [.int k]) (m_isObject l hl base D ct sa hR hI hB k) w_X4_57 hH.1.1 rfl rfl (by decide) (Nat.le_of_ble_eq_true rfl) ⟨by decide, by decide⟩ dX4_get_3 (by decide) (by decide) (fun _ _ h => h) (fun v9 M9 hv9 => ?_)
  obtain ⟨rfl, rfl⟩ := hv9
  refine VV.eqv (st' := [.int (b2i (isO σ k)), .ref mo]) rfl rfl ?_
  refine V_if_ne C 13 dX4_get_6 (by decide) (fun h_6 => ?_) (fun h_6 => ?_)
  · have hk := b2i_1 h_6
    refine V_iload_n C dX4_get_13 (by rfl) ?_
    refine V_callS C hx (As := [.int i]) (m_isEight l hl base D ct sa M9 i) w_X4_73 rfl (by decide) (Nat.le_of_ble_eq_true rfl) ⟨by decide, by decide⟩ dX4_get_14 (by decide) (by decide) (fun _ _ h => h) (fun v8 M8 hv8 => ?_)
    obtain ⟨rfl, rfl⟩ := hv8
    refine VV.eqv (st' := [.int (b2i (isN 8 i)), .ref mo]) rfl rfl ?_
    refine V_if_ne C 24 dX4_get_17 (by decide) (fun h_17 => ?_) (fun h_17 => ?_)
    · have hi := b2i_1 h_17
      obtain ⟨o, rfl, ho, ht, eo⟩ := isO_of hk (by omega)
      obtain ⟨j, hj, rfl, ej⟩ := isN_of hi (by decide)
      refine V_iconst C (0) dX4_get_24 (by decide) ?_
      refine Y_put C hH (σ) (0) 0 (by decide) fl_X4_50 rfl rfl (by rfl) (by rfl) (by rfl) rfl dX4_get_25 (fun M1 hH => ?_)
      refine V_aload_n C dX4_get_28 (by rfl) ?_
      refine V_get C (ci := 4) hH.1.1 rfl wu_X4 0 (by decide) fl_X4_50 rfl (by rfl) dX4_get_29 ?_
      refine V_if_le C 39 dX4_get_32 (by decide) (fun h_32 => ?_) (fun h_32 => absurd h_32 (fun h => h (Int32.le_refl _)))
      refine V_aload_n C dX4_get_39 (by rfl) ?_
      refine V_get C (ci := 4) hH.1.1 rfl wu_X4 5 (by decide) fl_X4_16 rfl (by rfl) dX4_get_40 ?_
      refine V_bipush C (nI 8) dX4_get_43 (by decide) ?_
      refine V_iload_n C dX4_get_45 (by rfl) ?_
      refine V_imul C dX4_get_46 ?_
      refine V_iload_n C dX4_get_47 (by rfl) ?_
      refine V_iadd C dX4_get_48 ?_
      refine V_top (y := nI (8 * o + j)) (by rw [pk_mul, nI_add]) ?_
      refine Y_ild C hH rfl (by omega) (by decide) dX4_get_49 ?_
      exact V_iret C hr (by decide) (by decide) dX4_get_50 (by rw [show oGet σ (nI o) (nI j) = (0, gCe σ (8 * o + j), σ) by simp only [oGet, hk, hi, eo, ej]; rfl]; exact ⟨rfl, hH⟩)
    · have hi := b2i_0 h_17
      refine V_iconst C (nI 2) dX4_get_20 (by decide) ?_
      refine V_goto C 25 dX4_get_21 (by decide) ?_
      refine VV.loc [(0, .ref mo), (1, .int k), (2, .int i)] ⟨rfl, rfl, rfl, trivial⟩ ?_
      exact tlE 2 (by decide) (by decide) (by simp [oGet, hk, hi])
  · have hk := b2i_0 h_6
    refine V_iconst C (nI 1) dX4_get_9 (by decide) ?_
    refine V_goto C 25 dX4_get_10 (by decide) ?_
    refine VV.loc [(0, .ref mo), (1, .int k), (2, .int i)] ⟨rfl, rfl, rfl, trivial⟩ ?_
    exact tlE 1 (by decide) (by decide) (by simp [oGet, hk])
set_option maxHeartbeats 4000000 in
set_option maxRecDepth 100000 in
theorem m_stateOf (l : Launch) (hl : l.stackTraces = false) (base : Nat) (D : va_G) (ct : Nat → ClassId) (sa : Nat → Nat) {B G : Nat → Nat} {σ : Sg} {th : Int32} {M : Mem} {mo K : Nat} (hR : RepM ct B G σ th M mo) (hI : Inv K σ) (hB : K < 600) (i : Int32) :
    CT l yX4_stateOf (.code yX4_stateOf cX4_stateOf 2 (some .int) :: WL) (rmK 2 0 0) base D ct sa M [.ref mo, .int i] (PostM ct B G M mo (oStateOf σ i)) noX := by
  refine CT.of hl (by decide) (Nat.le_of_ble_eq_true rfl) ?_
  intro p e s m below meth c C hr hx
  have hH : HM ct B G M σ th M mo := hR.hold
  obtain ⟨⟨i1, i2, i3, i4, i5, i6, i7, i8⟩, ⟨t1, t2, t3, t4⟩, ⟨s1, s2, s3, s4⟩, ⟨r1, r2, r3, r4, r5, r6⟩, ⟨v1, v2⟩, v3⟩ := id hI
  have tlE : ∀ cd : Nat, 0 < cd → cd ≤ 3 → oStateOf σ i = (cd, 0, σ) → VV p l e (rmK 2 0 0) s m ([.ref mo, .int i] : List Value).toArray below meth c 2 base D (QB base D (PostM ct B G M mo (oStateOf σ i)) noX below ([.ref mo, .int i] : List Value).toArray s 0 0) M 0 0 13 [(0, .ref mo), (1, .int i)] [.int (nI cd), .ref mo] := by
    intro cd hc0 hc3 hce
    refine Y_put C hH (σ) (nI cd) 0 (by decide) fl_X4_50 rfl rfl (by rfl) (by rfl) (by rfl) rfl dX4_stateOf_13 (fun M1 hH => ?_)
    refine V_aload_n C dX4_stateOf_16 (by rfl) ?_
    refine V_get C (ci := 4) hH.1.1 rfl wu_X4 0 (by decide) fl_X4_50 rfl (by rfl) dX4_stateOf_17 ?_
    refine V_if_le C 27 dX4_stateOf_20 (by decide) (fun h_20 => absurd h_20 (nI_nle hc0 (by omega))) (fun h_20 => ?_)
    refine V_iconst C (0) dX4_stateOf_23 (by decide) ?_
    refine V_goto C 33 dX4_stateOf_24 (by decide) ?_
    exact V_iret C hr (by decide) (by decide) dX4_stateOf_33 ⟨by rw [hce], by rw [hce]; exact hH⟩
  refine V_aload_n C dX4_stateOf_0 (by rfl) ?_
  refine V_iload_n C dX4_stateOf_1 (by rfl) ?_
  refine V_callS C hx (As := [.int i]) (m_isParameter l hl base D ct sa M i) w_X4_96 rfl (by decide) (Nat.le_of_ble_eq_true rfl) ⟨by decide, by decide⟩ dX4_stateOf_2 (by decide) (by decide) (fun _ _ h => h) (fun v8 M8 hv8 => ?_)
  obtain ⟨rfl, rfl⟩ := hv8
  refine VV.eqv (st' := [.int (b2i (isN 10 i)), .ref mo]) rfl rfl ?_
  refine V_if_eq C 12 dX4_stateOf_5 (by decide) (fun h_5 => ?_) (fun h_5 => ?_)
  · have hi := b2i_0 h_5
    refine V_iconst C (nI 1) dX4_stateOf_12 (by decide) ?_
    refine VV.loc [(0, .ref mo), (1, .int i)] ⟨rfl, rfl, trivial⟩ ?_
    exact tlE 1 (by decide) (by decide) (by simp [oStateOf, hi])
  · have hi := b2i_1 h_5
    obtain ⟨j, hj, rfl, ej⟩ := isN_of hi (by decide)
    refine V_iconst C (0) dX4_stateOf_8 (by decide) ?_
    refine V_goto C 13 dX4_stateOf_9 (by decide) ?_
    refine Y_put C hH (σ) (0) 0 (by decide) fl_X4_50 rfl rfl (by rfl) (by rfl) (by rfl) rfl dX4_stateOf_13 (fun M1 hH => ?_)
    refine V_aload_n C dX4_stateOf_16 (by rfl) ?_
    refine V_get C (ci := 4) hH.1.1 rfl wu_X4 0 (by decide) fl_X4_50 rfl (by rfl) dX4_stateOf_17 ?_
    refine V_if_le C 27 dX4_stateOf_20 (by decide) (fun h_20 => ?_) (fun h_20 => absurd h_20 (fun h => h (Int32.le_refl _)))
    refine V_aload_n C dX4_stateOf_27 (by rfl) ?_
    refine V_get C (ci := 4) hH.1.1 rfl wu_X4 7 (by decide) fl_X4_23 rfl (by rfl) dX4_stateOf_28 ?_
    refine V_iload_n C dX4_stateOf_31 (by rfl) ?_
    refine Y_ild C hH rfl hj (by decide) dX4_stateOf_32 ?_
    exact V_iret C hr (by decide) (by decide) dX4_stateOf_33 (by rw [show oStateOf σ (nI j) = (0, gPa σ j, σ) by simp only [oStateOf, hi, ej]; rfl]; exact ⟨rfl, hH⟩)
set_option maxHeartbeats 4000000 in
set_option maxRecDepth 100000 in
theorem m_state (l : Launch) (hl : l.stackTraces = false) (base : Nat) (D : va_G) (ct : Nat → ClassId) (sa : Nat → Nat) {B G : Nat → Nat} {σ : Sg} {th : Int32} {M : Mem} {mo K : Nat} (hR : RepM ct B G σ th M mo) (hI : Inv K σ) (hB : K < 600) (i v : Int32) :
    CT l yX4_state (.code yX4_state cX4_state 4 (some .int) :: WL) (rmK 3 0 0) base D ct sa M [.ref mo, .int i, .int v] (PostM ct B G M mo (oState σ i v)) noX := by
  refine CT.of hl (by decide) (Nat.le_of_ble_eq_true rfl) ?_
  intro p e s m below meth c C hr hx
  have hH : HM ct B G M σ th M mo := hR.hold
  obtain ⟨⟨i1, i2, i3, i4, i5, i6, i7, i8⟩, ⟨t1, t2, t3, t4⟩, ⟨s1, s2, s3, s4⟩, ⟨r1, r2, r3, r4, r5, r6⟩, ⟨v1, v2⟩, v3⟩ := id hI
  have tlE : ∀ cd : Nat, 0 < cd → cd ≤ 3 → oState σ i v = (cd, 0, σ) → VV p l e (rmK 3 0 0) s m ([.ref mo, .int i, .int v] : List Value).toArray below meth c 4 base D (QB base D (PostM ct B G M mo (oState σ i v)) noX below ([.ref mo, .int i, .int v] : List Value).toArray s 0 0) M 0 0 25 [(0, .ref mo), (1, .int i), (2, .int v)] [.int (nI cd), .ref mo] := by
    intro cd hc0 hc3 hce
    refine Y_put C hH (σ) (nI cd) 0 (by decide) fl_X4_50 rfl rfl (by rfl) (by rfl) (by rfl) rfl dX4_state_25 (fun M1 hH => ?_)
    refine V_aload_n C dX4_state_28 (by rfl) ?_
    refine V_get C (ci := 4) hH.1.1 rfl wu_X4 0 (by decide) fl_X4_50 rfl (by rfl) dX4_state_29 ?_
    refine V_if_le C 37 dX4_state_32 (by decide) (fun h_32 => absurd h_32 (nI_nle hc0 (by omega))) (fun h_32 => ?_)
    refine V_iconst C (0) dX4_state_35 (by decide) ?_
    exact V_iret C hr (by decide) (by decide) dX4_state_36 ⟨by rw [hce], by rw [hce]; exact hH⟩
  refine V_aload_n C dX4_state_0 (by rfl) ?_
  refine V_aload_n C dX4_state_1 (by rfl) ?_
  refine V_iload_n C dX4_state_2 (by rfl) ?_
  refine V_callV C hx (As := [.int v]) (m_isValue l hl base D ct sa hR hI hB v) w_X4_70 hH.1.1 rfl rfl (by decide) (Nat.le_of_ble_eq_true rfl) ⟨by decide, by decide⟩ dX4_state_3 (by decide) (by decide) (fun _ _ h => h) (fun v9 M9 hv9 => ?_)
  obtain ⟨rfl, rfl⟩ := hv9
  refine VV.eqv (st' := [.int (b2i (isV σ v)), .ref mo]) rfl rfl ?_
  refine V_if_ne C 13 dX4_state_6 (by decide) (fun h_6 => ?_) (fun h_6 => ?_)
  · have hk := b2i_1 h_6
    refine V_iload_n C dX4_state_13 (by rfl) ?_
    refine V_callS C hx (As := [.int i]) (m_isParameter l hl base D ct sa M9 i) w_X4_96 rfl (by decide) (Nat.le_of_ble_eq_true rfl) ⟨by decide, by decide⟩ dX4_state_14 (by decide) (by decide) (fun _ _ h => h) (fun v8 M8 hv8 => ?_)
    obtain ⟨rfl, rfl⟩ := hv8
    refine VV.eqv (st' := [.int (b2i (isN 10 i)), .ref mo]) rfl rfl ?_
    refine V_if_ne C 24 dX4_state_17 (by decide) (fun h_17 => ?_) (fun h_17 => ?_)
    · have hi := b2i_1 h_17
      obtain ⟨j, hj, rfl, ej⟩ := isN_of hi (by decide)
      refine V_iconst C (0) dX4_state_24 (by decide) ?_
      refine Y_put C hH (σ) (0) 0 (by decide) fl_X4_50 rfl rfl (by rfl) (by rfl) (by rfl) rfl dX4_state_25 (fun M1 hH => ?_)
      refine V_aload_n C dX4_state_28 (by rfl) ?_
      refine V_get C (ci := 4) hH.1.1 rfl wu_X4 0 (by decide) fl_X4_50 rfl (by rfl) dX4_state_29 ?_
      refine V_if_le C 37 dX4_state_32 (by decide) (fun h_32 => ?_) (fun h_32 => absurd h_32 (fun h => h (Int32.le_refl _)))
      refine V_aload_n C dX4_state_37 (by rfl) ?_
      refine V_get C (ci := 4) hH.1.1 rfl wu_X4 7 (by decide) fl_X4_23 rfl (by rfl) dX4_state_38 ?_
      refine V_iload_n C dX4_state_41 (by rfl) ?_
      refine Y_ild C hH rfl hj (by decide) dX4_state_42 ?_
      refine V_istore_n C dX4_state_43 (by decide) ?_
      refine V_aload_n C dX4_state_44 (by rfl) ?_
      refine V_get C (ci := 4) hH.1.1 rfl wu_X4 7 (by decide) fl_X4_23 rfl (by rfl) dX4_state_45 ?_
      refine V_iload_n C dX4_state_48 (by rfl) ?_
      refine V_iload_n C dX4_state_49 (by rfl) ?_
      refine Y_ist C hH (sw σ 2 (va_up (σ.2 2) j v)) rfl hj (by decide) rfl (fun _ _ => rfl) ho_7 (fun _ => rfl) dX4_state_50 (fun M1 hH => ?_)
      refine V_iload_n C dX4_state_51 (by rfl) ?_
      exact V_iret C hr (by decide) (by decide) dX4_state_52 (by rw [show oState σ (nI j) v = (0, gPa σ j, sw σ 2 (va_up (σ.2 2) j v)) by simp only [oState, hk, hi, ej]; rfl]; exact ⟨rfl, hH⟩)
    · have hi := b2i_0 h_17
      refine V_iconst C (nI 2) dX4_state_20 (by decide) ?_
      refine V_goto C 25 dX4_state_21 (by decide) ?_
      refine VV.loc [(0, .ref mo), (1, .int i), (2, .int v)] ⟨rfl, rfl, rfl, trivial⟩ ?_
      exact tlE 2 (by decide) (by decide) (by simp [oState, hk, hi])
  · have hk := b2i_0 h_6
    refine V_iconst C (nI 1) dX4_state_9 (by decide) ?_
    refine V_goto C 25 dX4_state_10 (by decide) ?_
    refine VV.loc [(0, .ref mo), (1, .int i), (2, .int v)] ⟨rfl, rfl, rfl, trivial⟩ ?_
    exact tlE 1 (by decide) (by decide) (by simp [oState, hk])
set_option maxHeartbeats 4000000 in
set_option maxRecDepth 100000 in
theorem m_bytes (l : Launch) (hl : l.stackTraces = false) (base : Nat) (D : va_G) (ct : Nat → ClassId) (sa : Nat → Nat) {B G : Nat → Nat} {σ : Sg} {th : Int32} {M : Mem} {mo K : Nat} (hR : RepM ct B G σ th M mo) (hI : Inv K σ) (hB : K < 600) (k i v : Int32) :
    CT l yX4_bytes (.code yX4_bytes cX4_bytes 6 (some .int) :: WL) (rmK 2 0 0) base D ct sa M [.ref mo, .int k, .int i, .int v] (PostM ct B G M mo (oBytes σ k i v)) noX := by
  refine CT.of hl (by decide) (Nat.le_of_ble_eq_true rfl) ?_
  intro p e s m below meth c C hr hx
  have hH : HM ct B G M σ th M mo := hR.hold
  obtain ⟨⟨i1, i2, i3, i4, i5, i6, i7, i8⟩, ⟨t1, t2, t3, t4⟩, ⟨s1, s2, s3, s4⟩, ⟨r1, r2, r3, r4, r5, r6⟩, ⟨v1, v2⟩, v3⟩ := id hI
  have tlE : ∀ cd : Nat, 0 < cd → cd ≤ 3 → oBytes σ k i v = (cd, 0, σ) → VV p l e (rmK 2 0 0) s m ([.ref mo, .int k, .int i, .int v] : List Value).toArray below meth c 6 base D (QB base D (PostM ct B G M mo (oBytes σ k i v)) noX below ([.ref mo, .int k, .int i, .int v] : List Value).toArray s 0 0) M 0 0 37 [(0, .ref mo), (1, .int k), (2, .int i), (3, .int v)] [.int (nI cd), .ref mo] := by
    intro cd hc0 hc3 hce
    refine Y_put C hH (σ) (nI cd) 0 (by decide) fl_X4_50 rfl rfl (by rfl) (by rfl) (by rfl) rfl dX4_bytes_37 (fun M1 hH => ?_)
    refine V_aload_n C dX4_bytes_40 (by rfl) ?_
    refine V_get C (ci := 4) hH.1.1 rfl wu_X4 0 (by decide) fl_X4_50 rfl (by rfl) dX4_bytes_41 ?_
    refine V_if_le C 49 dX4_bytes_44 (by decide) (fun h_44 => absurd h_44 (nI_nle hc0 (by omega))) (fun h_44 => ?_)
    refine V_iconst C (0) dX4_bytes_47 (by decide) ?_
    exact V_iret C hr (by decide) (by decide) dX4_bytes_48 ⟨by rw [hce], by rw [hce]; exact hH⟩
  refine V_aload_n C dX4_bytes_0 (by rfl) ?_
  refine V_aload_n C dX4_bytes_1 (by rfl) ?_
  refine V_iload_n C dX4_bytes_2 (by rfl) ?_
  refine V_callV C hx (As := [.int k]) (m_isObject l hl base D ct sa hR hI hB k) w_X4_57 hH.1.1 rfl rfl (by decide) (Nat.le_of_ble_eq_true rfl) ⟨by decide, by decide⟩ dX4_bytes_3 (by decide) (by decide) (fun _ _ h => h) (fun v9 M9 hv9 => ?_)
  obtain ⟨rfl, rfl⟩ := hv9
  refine VV.eqv (st' := [.int (b2i (isO σ k)), .ref mo]) rfl rfl ?_
  refine V_if_ne C 13 dX4_bytes_6 (by decide) (fun h_6 => ?_) (fun h_6 => ?_)
  · have hk := b2i_1 h_6
    refine V_iload_n C dX4_bytes_13 (by rfl) ?_
    refine V_callS C hx (As := [.int i]) (m_isEight l hl base D ct sa M9 i) w_X4_73 rfl (by decide) (Nat.le_of_ble_eq_true rfl) ⟨by decide, by decide⟩ dX4_bytes_14 (by decide) (by decide) (fun _ _ h => h) (fun v8 M8 hv8 => ?_)
    obtain ⟨rfl, rfl⟩ := hv8
    refine VV.eqv (st' := [.int (b2i (isN 8 i)), .ref mo]) rfl rfl ?_
    refine V_if_eq C 32 dX4_bytes_17 (by decide) (fun h_17 => ?_) (fun h_17 => ?_)
    · have hi := b2i_0 h_17
      refine V_iconst C (nI 2) dX4_bytes_32 (by decide) ?_
      refine V_goto C 37 dX4_bytes_33 (by decide) ?_
      refine VV.loc [(0, .ref mo), (1, .int k), (2, .int i), (3, .int v)] ⟨rfl, rfl, rfl, rfl, trivial⟩ ?_
      exact tlE 2 (by decide) (by decide) (by simp [oBytes, hk, hi])
    · have hi := b2i_1 h_17
      refine V_iload_n C dX4_bytes_20 (by rfl) ?_
      refine V_iconst C (-1) dX4_bytes_21 (by decide) ?_
      refine V_icmp_lt C 32 dX4_bytes_22 (by decide) (fun h_22 => ?_) (fun h_22 => ?_)
      · refine V_iconst C (nI 2) dX4_bytes_32 (by decide) ?_
        refine V_goto C 37 dX4_bytes_33 (by decide) ?_
        refine VV.loc [(0, .ref mo), (1, .int k), (2, .int i), (3, .int v)] ⟨rfl, rfl, rfl, rfl, trivial⟩ ?_
        exact tlE 2 (by decide) (by decide) (by simp [oBytes, hk, h_22])
      · refine V_iload_n C dX4_bytes_25 (by rfl) ?_
        refine V_sipush C (255) dX4_bytes_26 (by decide) ?_
        refine V_icmp_le C 36 dX4_bytes_29 (by decide) (fun h_29 => ?_) (fun h_29 => ?_)
        · obtain ⟨o, rfl, ho, ht, eo⟩ := isO_of hk (by omega)
          obtain ⟨j, hj, rfl, ej⟩ := isN_of hi (by decide)
          refine V_iconst C (0) dX4_bytes_36 (by decide) ?_
          refine Y_put C hH (σ) (0) 0 (by decide) fl_X4_50 rfl rfl (by rfl) (by rfl) (by rfl) rfl dX4_bytes_37 (fun M1 hH => ?_)
          refine V_aload_n C dX4_bytes_40 (by rfl) ?_
          refine V_get C (ci := 4) hH.1.1 rfl wu_X4 0 (by decide) fl_X4_50 rfl (by rfl) dX4_bytes_41 ?_
          refine V_if_le C 49 dX4_bytes_44 (by decide) (fun h_44 => ?_) (fun h_44 => absurd h_44 (fun h => h (Int32.le_refl _)))
          refine V_bipush C (nI 8) dX4_bytes_49 (by decide) ?_
          refine V_iload_n C dX4_bytes_51 (by rfl) ?_
          refine V_imul C dX4_bytes_52 ?_
          refine V_iload_n C dX4_bytes_53 (by rfl) ?_
          refine V_iadd C dX4_bytes_54 ?_
          refine V_top (y := nI (8 * o + j)) (by rw [pk_mul, nI_add]) ?_
          refine V_istore C dX4_bytes_55 (by decide) ?_
          refine V_aload_n C dX4_bytes_57 (by rfl) ?_
          refine V_get C (ci := 4) hH.1.1 rfl wu_X4 6 (by decide) fl_X4_20 rfl (by rfl) dX4_bytes_58 ?_
          refine V_iload C dX4_bytes_61 (by rfl) ?_
          refine Y_ild C hH rfl (by omega) (by decide) dX4_bytes_63 ?_
          refine V_istore C dX4_bytes_64 (by decide) ?_
          refine V_aload_n C dX4_bytes_66 (by rfl) ?_
          refine V_get C (ci := 4) hH.1.1 rfl wu_X4 6 (by decide) fl_X4_20 rfl (by rfl) dX4_bytes_67 ?_
          refine V_iload C dX4_bytes_70 (by rfl) ?_
          refine V_iload_n C dX4_bytes_72 (by rfl) ?_
          refine V_if_lt C 80 dX4_bytes_73 (by decide) (fun h_73 => ?_) (fun h_73 => ?_)
          · refine V_iload C dX4_bytes_80 (by rfl) ?_
            refine V_top (y := if 0 ≤ v then v else gOc σ (8 * o + j)) (by rw [if_neg (Int32.not_le.mpr h_73)]) ?_
            refine Y_ist C hH (sw σ 1 (va_up (σ.2 1) (8 * o + j) (if 0 ≤ v then v else gOc σ (8 * o + j)))) rfl (by omega) (by decide) rfl (fun _ _ => rfl) ho_6 (fun _ => rfl) dX4_bytes_82 (fun M1 hH => ?_)
            refine V_iload C dX4_bytes_83 (by rfl) ?_
            exact V_iret C hr (by decide) (by decide) dX4_bytes_85 (by rw [show oBytes σ (nI o) (nI j) v = (0, gOc σ (8 * o + j), sw σ 1 (va_up (σ.2 1) (8 * o + j) (if 0 ≤ v then v else gOc σ (8 * o + j)))) by simp only [oBytes, hk, hi, eo, ej]; rw [if_neg (by decide), if_neg (by rintro (h | h | h); exact absurd h (by decide); exact h_22 h; exact absurd h_29 (Int32.not_le.mpr h))]]; exact ⟨rfl, hH⟩)
          · refine V_iload_n C dX4_bytes_76 (by rfl) ?_
            refine V_goto C 82 dX4_bytes_77 (by decide) ?_
            refine V_top (y := if 0 ≤ v then v else gOc σ (8 * o + j)) (by rw [if_pos (Int32.not_lt.mp h_73)]) ?_
            refine Y_ist C hH (sw σ 1 (va_up (σ.2 1) (8 * o + j) (if 0 ≤ v then v else gOc σ (8 * o + j)))) rfl (by omega) (by decide) rfl (fun _ _ => rfl) ho_6 (fun _ => rfl) dX4_bytes_82 (fun M1 hH => ?_)
            refine V_iload C dX4_bytes_83 (by rfl) ?_
            exact V_iret C hr (by decide) (by decide) dX4_bytes_85 (by rw [show oBytes σ (nI o) (nI j) v = (0, gOc σ (8 * o + j), sw σ 1 (va_up (σ.2 1) (8 * o + j) (if 0 ≤ v then v else gOc σ (8 * o + j)))) by simp only [oBytes, hk, hi, eo, ej]; rw [if_neg (by decide), if_neg (by rintro (h | h | h); exact absurd h (by decide); exact h_22 h; exact absurd h_29 (Int32.not_le.mpr h))]]; exact ⟨rfl, hH⟩)
        · refine V_iconst C (nI 2) dX4_bytes_32 (by decide) ?_
          refine V_goto C 37 dX4_bytes_33 (by decide) ?_
          refine VV.loc [(0, .ref mo), (1, .int k), (2, .int i), (3, .int v)] ⟨rfl, rfl, rfl, rfl, trivial⟩ ?_
          exact tlE 2 (by decide) (by decide) (by rw [oBytes, if_neg (by simp [hk]), if_pos (Or.inr (Or.inr (Int32.not_le.mp h_29)))])
  · have hk := b2i_0 h_6
    refine V_iconst C (nI 1) dX4_bytes_9 (by decide) ?_
    refine V_goto C 37 dX4_bytes_10 (by decide) ?_
    refine VV.loc [(0, .ref mo), (1, .int k), (2, .int i), (3, .int v)] ⟨rfl, rfl, rfl, rfl, trivial⟩ ?_
    exact tlE 1 (by decide) (by decide) (by simp [oBytes, hk])
set_option maxHeartbeats 4000000 in
set_option maxRecDepth 100000 in
theorem m_old (l : Launch) (hl : l.stackTraces = false) (base : Nat) (D : va_G) (ct : Nat → ClassId) (sa : Nat → Nat) {B G : Nat → Nat} {σ : Sg} {th : Int32} {M : Mem} {mo K : Nat} (hR : RepM ct B G σ th M mo) (hI : Inv K σ) (hB : K < 600) (k : Int32) :
    CT l yX4_old (.code yX4_old cX4_old 4 (some .int) :: WL) (rmK 2 0 0) base D ct sa M [.ref mo, .int k] (PostM ct B G M mo (oOld σ k)) noX := by
  refine CT.of hl (by decide) (Nat.le_of_ble_eq_true rfl) ?_
  intro p e s m below meth c C hr hx
  have hH : HM ct B G M σ th M mo := hR.hold
  obtain ⟨⟨i1, i2, i3, i4, i5, i6, i7, i8⟩, ⟨t1, t2, t3, t4⟩, ⟨s1, s2, s3, s4⟩, ⟨r1, r2, r3, r4, r5, r6⟩, ⟨v1, v2⟩, v3⟩ := id hI
  refine V_aload_n C dX4_old_0 (by rfl) ?_
  refine V_aload_n C dX4_old_1 (by rfl) ?_
  refine V_iload_n C dX4_old_2 (by rfl) ?_
  refine V_callV C hx (As := [.int k]) (m_isObject l hl base D ct sa hR hI hB k) w_X4_57 hH.1.1 rfl rfl (by decide) (Nat.le_of_ble_eq_true rfl) ⟨by decide, by decide⟩ dX4_old_3 (by decide) (by decide) (fun _ _ h => h) (fun v9 M9 hv9 => ?_)
  obtain ⟨rfl, rfl⟩ := hv9
  refine VV.eqv (st' := [.int (b2i (isO σ k)), .ref mo]) rfl rfl ?_
  refine V_if_eq C 13 dX4_old_6 (by decide) (fun h_6 => ?_) (fun h_6 => ?_)
  · have hk := b2i_0 h_6
    have hce : oOld σ k = (1, 0, σ) := by simp [oOld, hk]
    refine V_iconst C (1) dX4_old_13 (by decide) ?_
    refine Y_put C hH (σ) (1) 0 (by decide) fl_X4_50 rfl rfl (by rfl) (by rfl) (by rfl) rfl dX4_old_14 (fun M1 hH => ?_)
    refine V_iconst C (0) dX4_old_17 (by decide) ?_
    refine V_istore_n C dX4_old_18 (by decide) ?_
    refine V_iconst C (0) dX4_old_19 (by decide) ?_
    refine V_istore_n C dX4_old_20 (by decide) ?_
    refine V_iload_n C dX4_old_21 (by rfl) ?_
    refine V_aload_n C dX4_old_22 (by rfl) ?_
    refine V_get C (ci := 4) hH.1.1 rfl wu_X4 8 (by decide) fl_X4_64 rfl (by rfl) dX4_old_23 ?_
    refine V_icmp_ge C 60 dX4_old_26 (by decide) (fun h_26 => ?_) (fun h_26 => ?_)
    · refine V_iload_n C dX4_old_60 (by rfl) ?_
      exact V_iret C hr (by decide) (by decide) dX4_old_61 ⟨by rw [hce], by rw [hce]; exact hH⟩
    · refine V_aload_n C dX4_old_29 (by rfl) ?_
      refine V_get C (ci := 4) hH.1.1 rfl wu_X4 0 (by decide) fl_X4_50 rfl (by rfl) dX4_old_30 ?_
      refine V_if_ne C 60 dX4_old_33 (by decide) (fun h_33 => ?_) (fun h_33 => absurd h_33 (by decide))
      refine V_iload_n C dX4_old_60 (by rfl) ?_
      exact V_iret C hr (by decide) (by decide) dX4_old_61 ⟨by rw [hce], by rw [hce]; exact hH⟩
  · have hk := b2i_1 h_6
    obtain ⟨o, rfl, ho, ht, eo⟩ := isO_of hk (by omega)
    refine V_iconst C (0) dX4_old_9 (by decide) ?_
    refine V_goto C 14 dX4_old_10 (by decide) ?_
    refine Y_put C hH (σ) (0) 0 (by decide) fl_X4_50 rfl rfl (by rfl) (by rfl) (by rfl) rfl dX4_old_14 (fun M1 hH => ?_)
    refine V_iconst C (0) dX4_old_17 (by decide) ?_
    refine V_istore_n C dX4_old_18 (by decide) ?_
    refine V_iconst C (0) dX4_old_19 (by decide) ?_
    refine V_istore_n C dX4_old_20 (by decide) ?_
    have loop : ∀ d t : Nat, gSv σ ≤ t + d → t ≤ gSv σ → VV p l e (rmK 2 0 0) s m ([.ref mo, .int (nI o)] : List Value).toArray below meth c 4 base D (QB base D (PostM ct B G M9 mo (oOld σ (nI o))) noX below ([.ref mo, .int (nI o)] : List Value).toArray s 0 0) M1 0 0 21 [(0, .ref mo), (1, .int (nI o)), (2, .int (nI (newS σ o t))), (3, .int (nI t))] [] := by
      intro d
      induction d with
      | zero =>
        intro t h1 h2
        have htt : t = gSv σ := by omega
        refine V_iload_n C dX4_old_21 (by rfl) ?_
        refine V_aload_n C dX4_old_22 (by rfl) ?_
        refine V_get C (ci := 4) hH.1.1 rfl wu_X4 8 (by decide) fl_X4_64 rfl (by rfl) dX4_old_23 ?_
        refine V_icmp_ge C 60 dX4_old_26 (by decide) (fun h_26 => ?_) (fun h_26 => absurd h_26 (fun h => h ((nI_leI (by omega) (by omega)).mpr (by omega))))
        refine V_iload_n C dX4_old_60 (by rfl) ?_
        exact V_iret C hr (by decide) (by decide) dX4_old_61 (by rw [show oOld σ (nI o) = (0, nI (newS σ o (gSv σ)), σ) by simp only [oOld, hk, eo]; rfl, ← htt]; exact ⟨rfl, hH⟩)
      | succ d ih =>
        intro t h1 h2
        rcases Nat.lt_or_ge t (gSv σ) with ht2 | ht2
        · refine V_iload_n C dX4_old_21 (by rfl) ?_
          refine V_aload_n C dX4_old_22 (by rfl) ?_
          refine V_get C (ci := 4) hH.1.1 rfl wu_X4 8 (by decide) fl_X4_64 rfl (by rfl) dX4_old_23 ?_
          refine V_icmp_ge C 60 dX4_old_26 (by decide) (fun h_26 => absurd h_26 (fun h => absurd ((nI_leI (by omega) (by omega)).mp h) (by omega))) (fun h_26 => ?_)
          refine V_aload_n C dX4_old_29 (by rfl) ?_
          refine V_get C (ci := 4) hH.1.1 rfl wu_X4 0 (by decide) fl_X4_50 rfl (by rfl) dX4_old_30 ?_
          refine V_if_ne C 60 dX4_old_33 (by decide) (fun h_33 => absurd h_33 (fun h => h rfl)) (fun h_33 => ?_)
          refine V_iload_n C dX4_old_36 (by rfl) ?_
          refine V_aload_n C dX4_old_37 (by rfl) ?_
          refine V_get C (ci := 4) hH.1.1 rfl wu_X4 12 (by decide) fl_X4_29 rfl (by rfl) dX4_old_38 ?_
          refine V_iload_n C dX4_old_41 (by rfl) ?_
          refine Y_ild C hH rfl (by omega) (by decide) dX4_old_42 ?_
          refine V_icmp_lt C 52 dX4_old_43 (by decide) (fun h_43 => ?_) (fun h_43 => ?_)
          · have e9 : newS σ o (t + 1) = newS σ o t := by
              have : ¬ gFst σ t ≤ o := Nat.not_le_of_lt ((nI_ltI (by omega) (by have := s3 t ht2; omega)).mp h_43)
              simp [newS, this]
            refine V_iload_n C dX4_old_52 (by rfl) ?_
            refine V_top (y := nI (newS σ o (t + 1))) (by rw [e9]) ?_
            refine V_istore_n C dX4_old_53 (by decide) ?_
            refine V_inc1 C dX4_old_54 (by rfl) (by decide) ?_
            refine V_goto C 21 dX4_old_57 (by decide) ?_
            refine VV.loc [(0, .ref mo), (1, .int (nI o)), (2, .int (nI (newS σ o (t + 1)))), (3, .int (nI (t + 1)))] ⟨rfl, rfl, rfl, (by rw [← nI_1]; rfl), trivial⟩ ?_
            exact ih (t + 1) (by omega) (by omega)
          · have e9 : newS σ o (t + 1) = newS σ o t + 1 := by
              have : gFst σ t ≤ o := Nat.le_of_not_lt (fun h => h_43 (nI_lt (b := gFst σ t) h (by have := s3 t ht2; omega)))
              simp [newS, this]
            refine V_iload_n C dX4_old_46 (by rfl) ?_
            refine V_iconst C (nI 1) dX4_old_47 (by decide) ?_
            refine V_iadd C dX4_old_48 ?_
            refine V_goto C 53 dX4_old_49 (by decide) ?_
            refine V_top (y := nI (newS σ o (t + 1))) (by rw [e9, nI_add]) ?_
            refine V_istore_n C dX4_old_53 (by decide) ?_
            refine V_inc1 C dX4_old_54 (by rfl) (by decide) ?_
            refine V_goto C 21 dX4_old_57 (by decide) ?_
            refine VV.loc [(0, .ref mo), (1, .int (nI o)), (2, .int (nI (newS σ o (t + 1)))), (3, .int (nI (t + 1)))] ⟨rfl, rfl, rfl, (by rw [← nI_1]; rfl), trivial⟩ ?_
            exact ih (t + 1) (by omega) (by omega)
        · exact ih t (by omega) h2
    refine VV.loc [(0, .ref mo), (1, .int (nI o)), (2, .int (nI (newS σ o 0))), (3, .int (nI 0))] ⟨rfl, rfl, rfl, rfl, trivial⟩ ?_
    exact loop (gSv σ) 0 (by omega) (Nat.zero_le _)
set_option maxHeartbeats 4000000 in
set_option maxRecDepth 100000 in
theorem m_object (l : Launch) (hl : l.stackTraces = false) (base : Nat) (D : va_G) (ct : Nat → ClassId) (sa : Nat → Nat) {B G : Nat → Nat} {σ : Sg} {th : Int32} {M : Mem} {mo K : Nat} (hR : RepM ct B G σ th M mo) (hI : Inv K σ) (hB : K < 600) (g : Int32) (hg : g = 0 ∨ g = 1) :
    CT l yX4_object (.code yX4_object cX4_object 2 (some .int) :: WL) (rmK 1 0 0) base D ct sa M [.ref mo, .int g] (PostM ct B G M mo (oObject σ g)) noX := by
  refine CT.of hl (by decide) (Nat.le_of_ble_eq_true rfl) ?_
  intro p e s m below meth c C hr hx
  have hH : HM ct B G M σ th M mo := hR.hold
  obtain ⟨⟨i1, i2, i3, i4, i5, i6, i7, i8⟩, ⟨t1, t2, t3, t4⟩, ⟨s1, s2, s3, s4⟩, ⟨r1, r2, r3, r4, r5, r6⟩, ⟨v1, v2⟩, v3⟩ := id hI
  have tlE : ∀ cd : Nat, 0 < cd → cd ≤ 3 → oObject σ g = (cd, 0, σ) → VV p l e (rmK 1 0 0) s m ([.ref mo, .int g] : List Value).toArray below meth c 2 base D (QB base D (PostM ct B G M mo (oObject σ g)) noX below ([.ref mo, .int g] : List Value).toArray s 0 0) M 0 0 16 [(0, .ref mo), (1, .int g)] [.int (nI cd), .ref mo] := by
    intro cd hc0 hc3 hce
    refine Y_put C hH (σ) (nI cd) 0 (by decide) fl_X4_50 rfl rfl (by rfl) (by rfl) (by rfl) rfl dX4_object_16 (fun M1 hH => ?_)
    refine V_aload_n C dX4_object_19 (by rfl) ?_
    refine V_get C (ci := 4) hH.1.1 rfl wu_X4 0 (by decide) fl_X4_50 rfl (by rfl) dX4_object_20 ?_
    refine V_if_le C 28 dX4_object_23 (by decide) (fun h_23 => absurd h_23 (nI_nle hc0 (by omega))) (fun h_23 => ?_)
    refine V_iconst C (0) dX4_object_26 (by decide) ?_
    exact V_iret C hr (by decide) (by decide) dX4_object_27 ⟨by rw [hce], by rw [hce]; exact hH⟩
  refine V_aload_n C dX4_object_0 (by rfl) ?_
  refine V_aload_n C dX4_object_1 (by rfl) ?_
  refine V_get C (ci := 4) hH.1.1 rfl wu_X4 2 (by decide) fl_X4_61 rfl (by rfl) dX4_object_2 ?_
  refine V_sipush C (nI 200) dX4_object_5 (by decide) ?_
  refine V_icmp_ne C 15 dX4_object_8 (by decide) (fun h_8 => ?_) (fun h_8 => ?_)
  · have h0 : ¬ gAlive σ = 200 := fun h => h_8 (by rw [h])
    refine V_iconst C (0) dX4_object_15 (by decide) ?_
    refine Y_put C hH (σ) (0) 0 (by decide) fl_X4_50 rfl rfl (by rfl) (by rfl) (by rfl) rfl dX4_object_16 (fun M1 hH => ?_)
    refine V_aload_n C dX4_object_19 (by rfl) ?_
    refine V_get C (ci := 4) hH.1.1 rfl wu_X4 0 (by decide) fl_X4_50 rfl (by rfl) dX4_object_20 ?_
    refine V_if_le C 28 dX4_object_23 (by decide) (fun h_23 => ?_) (fun h_23 => absurd h_23 (fun h => h (Int32.le_refl _)))
    refine V_aload_n C dX4_object_28 (by rfl) ?_
    refine V_get C (ci := 4) hH.1.1 rfl wu_X4 3 (by decide) fl_X4_7 rfl (by rfl) dX4_object_29 ?_
    refine V_aload_n C dX4_object_32 (by rfl) ?_
    refine V_get C (ci := 4) hH.1.1 rfl wu_X4 1 (by decide) fl_X4_54 rfl (by rfl) dX4_object_33 ?_
    refine V_iconst C (1) dX4_object_36 (by decide) ?_
    refine Y_zst C hH (sf σ 2 (va_up (σ.1 2) (gMade σ) 1)) rfl (by omega) (by decide) rfl (fun i _ => nF_up (by decide) i) ho_3 (fun _ => rfl) dX4_object_37 (fun M1 hH => ?_)
    refine V_aload_n C dX4_object_38 (by rfl) ?_
    refine V_get C (ci := 4) hH.1.1 rfl wu_X4 4 (by decide) fl_X4_13 rfl (by rfl) dX4_object_39 ?_
    refine V_aload_n C dX4_object_42 (by rfl) ?_
    refine V_get C (ci := 4) hH.1.1 rfl wu_X4 1 (by decide) fl_X4_54 rfl (by rfl) dX4_object_43 ?_
    refine V_iload_n C dX4_object_46 (by rfl) ?_
    refine Y_zst C hH (sf (sf σ 2 (va_up (σ.1 2) (gMade σ) 1)) 3 (va_up (σ.1 3) (gMade σ) (if g = 0 then 0 else 1))) rfl (show gMade σ < 600 by omega) (by decide) rfl (fun i _ => nF_up (by rcases hg with rfl | rfl <;> decide) i) ho_4 (fun _ => rfl) dX4_object_47 (fun M1 hH => ?_)
    refine V_aload_n C dX4_object_48 (by rfl) ?_
    refine V_dup C dX4_object_49 rfl ?_
    refine V_get C (ci := 4) hH.1.1 rfl wu_X4 2 (by decide) fl_X4_61 rfl (by rfl) dX4_object_50 ?_
    refine V_iconst C (1) dX4_object_53 (by decide) ?_
    refine V_iadd C dX4_object_54 ?_
    refine V_top (y := nI (gAlive σ + 1)) (nI_1 _) ?_
    refine Y_put C hH (sf (sf (sf σ 2 (va_up (σ.1 2) (gMade σ) 1)) 3 (va_up (σ.1 3) (gMade σ) (if g = 0 then 0 else 1))) 1 (sk (gAlive σ + 1))) (0) 2 (by decide) fl_X4_61 rfl rfl (by rfl) (by rfl) (by rfl) os_1 dX4_object_55 (fun M1 hH => ?_)
    refine V_aload_n C dX4_object_58 (by rfl) ?_
    refine V_dup C dX4_object_59 rfl ?_
    refine V_get C (ci := 4) hH.1.1 rfl wu_X4 1 (by decide) fl_X4_54 rfl (by rfl) dX4_object_60 ?_
    refine V_iconst C (1) dX4_object_63 (by decide) ?_
    refine V_iadd C dX4_object_64 ?_
    refine V_top (y := nI (gMade σ + 1)) (nI_1 _) ?_
    refine Y_put C hH (sf (sf (sf (sf σ 2 (va_up (σ.1 2) (gMade σ) 1)) 3 (va_up (σ.1 3) (gMade σ) (if g = 0 then 0 else 1))) 1 (sk (gAlive σ + 1))) 0 (sk (gMade σ + 1))) (0) 1 (by decide) fl_X4_54 rfl rfl (by rfl) (by rfl) (by rfl) os_0 dX4_object_65 (fun M1 hH => ?_)
    refine V_aload_n C dX4_object_68 (by rfl) ?_
    refine V_get C (ci := 4) hH.1.1 rfl wu_X4 1 (by decide) fl_X4_54 rfl (by rfl) dX4_object_69 ?_
    refine V_iconst C (1) dX4_object_72 (by decide) ?_
    refine V_isub C dX4_object_73 ?_
    refine V_top (y := nI (gMade σ)) (nI_pred _) ?_
    exact V_iret C hr (by decide) (by decide) dX4_object_74 (by rw [show oObject σ g = (0, nI (gMade σ), sf (sf (sf (sf σ 2 (va_up (σ.1 2) (gMade σ) 1)) 3 (va_up (σ.1 3) (gMade σ) (if g = 0 then 0 else 1))) 1 (sk (gAlive σ + 1))) 0 (sk (gMade σ + 1))) by rw [oObject, if_neg h0]]; exact ⟨rfl, hH⟩)
  · have h0 : gAlive σ = 200 := (nI_eq (by omega) (by decide)).mp h_8
    refine V_iconst C (nI 1) dX4_object_11 (by decide) ?_
    refine V_goto C 16 dX4_object_12 (by decide) ?_
    refine VV.loc [(0, .ref mo), (1, .int g)] ⟨rfl, rfl, trivial⟩ ?_
    exact tlE 1 (by decide) (by decide) (by rw [oObject, if_pos h0])
end
section
/-! the reference: keep, put -/
theorem hasR_0 (σ : Sg) (lo c : Nat) : hasR σ lo lo c = false := by
  rw [Bool.eq_false_iff]
  intro h
  obtain ⟨r, h1, h2, -⟩ := hasR_iff.mp h
  omega
theorem hasR_s {σ : Sg} {lo t c : Nat} (h : lo ≤ t) : hasR σ lo (t + 1) c = (hasR σ lo t c || decide (gPl σ t = c)) := by
  unfold hasR
  rw [List.range_succ, List.any_append]
  simp [h]
def afterK (σ : Sg) (c : Nat) : Sg := if hasR σ (gRb σ (gSv σ - 1)) (gRows σ) c then σ else doKeep σ c
set_option maxHeartbeats 4000000 in
set_option maxRecDepth 100000 in
theorem m_keep (l : Launch) (hl : l.stackTraces = false) (base : Nat) (D : va_G) (ct : Nat → ClassId) (sa : Nat → Nat) {B G : Nat → Nat} {σ : Sg} {th : Int32} {M : Mem} {mo K : Nat} (hR : RepM ct B G σ th M mo) (hI : Inv K σ) (hB : K < 600) {a : Nat} (ha : a < 4800) (h0 : 0 < gSv σ) :
    CT l yX4_keep (.code yX4_keep cX4_keep 5 none :: WL) (rmK 1 0 0) base D ct sa M [.ref mo, .int (nI a)] (fun v9 M' => v9 = none ∧ HM ct B G M (afterK σ a) th M' mo) noX := by
  refine CT.of hl (by decide) (Nat.le_of_ble_eq_true rfl) ?_
  intro p e s m below meth c C hr hx
  have hH : HM ct B G M σ th M mo := hR.hold
  obtain ⟨⟨i1, i2, i3, i4, i5, i6, i7, i8⟩, ⟨t1, t2, t3, t4⟩, ⟨s1, s2, s3, s4⟩, ⟨r1, r2, r3, r4, r5, r6⟩, ⟨v1, v2⟩, v3⟩ := id hI
  have hpl : ∀ t, gRb σ (gSv σ - 1) ≤ t → t < gRows σ → gPl σ t < 2 ^ 31 := by
    intro t h1 h2
    have h3 := (v3 (gSv σ - 1) t (by omega) (by unfold rbx; rw [if_pos (by omega)]; exact h1) (by unfold rbx; rw [if_neg (by omega)]; exact h2)).1
    have h4 := s3 (gSv σ - 1) (by omega)
    omega
  have loop : ∀ d t : Nat, gRows σ ≤ t + d → t ≤ gRows σ → gRb σ (gSv σ - 1) ≤ t → VV p l e (rmK 1 0 0) s m ([.ref mo, .int (nI a)] : List Value).toArray below meth c 5 base D (QB base D (fun v9 M' => v9 = none ∧ HM ct B G M (afterK σ a) th M' mo) noX below ([.ref mo, .int (nI a)] : List Value).toArray s 0 0) M 0 0 17 [(0, .ref mo), (1, .int (nI a)), (2, .int (nI (gRb σ (gSv σ - 1)))), (3, .int (b2i (hasR σ (gRb σ (gSv σ - 1)) t a))), (4, .int (nI t))] [] := by
    intro d
    induction d with
    | zero =>
      intro t h1 h2 h3
      have htt : t = gRows σ := by omega
      refine V_iload C dX4_keep_17 (by rfl) ?_
      refine V_aload_n C dX4_keep_19 (by rfl) ?_
      refine V_get C (ci := 4) hH.1.1 rfl wu_X4 16 (by decide) fl_X4_67 rfl (by rfl) dX4_keep_20 ?_
      refine V_icmp_ge C 53 dX4_keep_23 (by decide) (fun h_23 => ?_) (fun h_23 => absurd h_23 (fun h => h ((nI_leI (by omega) (by omega)).mpr (by omega))))
      refine V_iload_n C dX4_keep_53 (by rfl) ?_
      refine V_if_ne C 92 dX4_keep_54 (by decide) (fun h_54 => ?_) (fun h_54 => ?_)
      · have e9 := b2i_1 h_54
        exact V_vret C hr (by decide) (by decide) dX4_keep_92 ⟨rfl, by unfold afterK; rw [← htt]; simp only [e9]; exact hH⟩
      · have e9 := b2i_0 h_54
        refine V_aload_n C dX4_keep_57 (by rfl) ?_
        refine V_get C (ci := 4) hH.1.1 rfl wu_X4 17 (by decide) fl_X4_41 rfl (by rfl) dX4_keep_58 ?_
        refine V_aload_n C dX4_keep_61 (by rfl) ?_
        refine V_get C (ci := 4) hH.1.1 rfl wu_X4 16 (by decide) fl_X4_67 rfl (by rfl) dX4_keep_62 ?_
        refine V_iload_n C dX4_keep_65 (by rfl) ?_
        refine Y_ist C hH (sf σ 12 (va_up (σ.1 12) (gRows σ) a)) rfl (by omega) (by decide) rfl (fun i _ => nF_up rfl i) ho_17 (fun _ => rfl) dX4_keep_66 (fun M1 hH => ?_)
        refine V_aload_n C dX4_keep_67 (by rfl) ?_
        refine V_get C (ci := 4) hH.1.1 rfl wu_X4 18 (by decide) fl_X4_44 rfl (by rfl) dX4_keep_68 ?_
        refine V_aload_n C dX4_keep_71 (by rfl) ?_
        refine V_get C (ci := 4) hH.1.1 rfl wu_X4 16 (by decide) fl_X4_67 rfl (by rfl) dX4_keep_72 ?_
        refine V_aload_n C dX4_keep_75 (by rfl) ?_
        refine V_get C (ci := 4) hH.1.1 rfl wu_X4 5 (by decide) fl_X4_16 rfl (by rfl) dX4_keep_76 ?_
        refine V_iload_n C dX4_keep_79 (by rfl) ?_
        refine Y_ild C hH rfl (by omega) (by decide) dX4_keep_80 ?_
        refine Y_ist C hH (sw (sf σ 12 (va_up (σ.1 12) (gRows σ) a)) 4 (va_up (σ.2 4) (gRows σ) (gCe σ a))) rfl (show gRows σ < 600 by omega) (by decide) rfl (fun _ _ => rfl) ho_18 (fun _ => rfl) dX4_keep_81 (fun M1 hH => ?_)
        refine V_aload_n C dX4_keep_82 (by rfl) ?_
        refine V_dup C dX4_keep_83 rfl ?_
        refine V_get C (ci := 4) hH.1.1 rfl wu_X4 16 (by decide) fl_X4_67 rfl (by rfl) dX4_keep_84 ?_
        refine V_iconst C (1) dX4_keep_87 (by decide) ?_
        refine V_iadd C dX4_keep_88 ?_
        refine V_top (y := nI (gRows σ + 1)) (nI_1 _) ?_
        refine Y_put C hH (sf (sw (sf σ 12 (va_up (σ.1 12) (gRows σ) a)) 4 (va_up (σ.2 4) (gRows σ) (gCe σ a))) 11 (sk (gRows σ + 1))) (th) 16 (by decide) fl_X4_67 rfl rfl (by rfl) (by rfl) (by rfl) os_11 dX4_keep_89 (fun M1 hH => ?_)
        exact V_vret C hr (by decide) (by decide) dX4_keep_92 ⟨rfl, by unfold afterK; rw [← htt]; simp only [e9]; exact hH⟩
    | succ d ih =>
      intro t h1 h2 h3
      rcases Nat.lt_or_ge t (gRows σ) with ht2 | ht2
      · refine V_iload C dX4_keep_17 (by rfl) ?_
        refine V_aload_n C dX4_keep_19 (by rfl) ?_
        refine V_get C (ci := 4) hH.1.1 rfl wu_X4 16 (by decide) fl_X4_67 rfl (by rfl) dX4_keep_20 ?_
        refine V_icmp_ge C 53 dX4_keep_23 (by decide) (fun h_23 => absurd h_23 (fun h => absurd ((nI_leI (by omega) (by omega)).mp h) (by omega))) (fun h_23 => ?_)
        refine V_iload_n C dX4_keep_26 (by rfl) ?_
        refine V_if_ne C 41 dX4_keep_27 (by decide) (fun h_27 => ?_) (fun h_27 => ?_)
        · have e9 : hasR σ (gRb σ (gSv σ - 1)) (t + 1) a = true := by rw [hasR_s h3, b2i_1 h_27]; rfl
          refine V_iconst C 1 dX4_keep_41 (by decide) ?_
          refine V_goto C 46 dX4_keep_42 (by decide) ?_
          refine V_istore_n C dX4_keep_46 (by decide) ?_
          refine V_inc1 C dX4_keep_47 (by rfl) (by decide) ?_
          refine V_goto C 17 dX4_keep_50 (by decide) ?_
          refine VV.loc [(0, .ref mo), (1, .int (nI a)), (2, .int (nI (gRb σ (gSv σ - 1)))), (3, .int (b2i (hasR σ (gRb σ (gSv σ - 1)) (t + 1) a))), (4, .int (nI (t + 1)))] ⟨rfl, rfl, rfl, (by rw [e9]; rfl), (by rw [← nI_1]; rfl), trivial⟩ ?_
          exact ih (t + 1) (by omega) (by omega) (by omega)
        · refine V_aload_n C dX4_keep_30 (by rfl) ?_
          refine V_get C (ci := 4) hH.1.1 rfl wu_X4 17 (by decide) fl_X4_41 rfl (by rfl) dX4_keep_31 ?_
          refine V_iload C dX4_keep_34 (by rfl) ?_
          refine Y_ild C hH rfl (by omega) (by decide) dX4_keep_36 ?_
          refine V_iload_n C dX4_keep_37 (by rfl) ?_
          refine V_icmp_ne C 45 dX4_keep_38 (by decide) (fun h_38 => ?_) (fun h_38 => ?_)
          · have e9 : hasR σ (gRb σ (gSv σ - 1)) (t + 1) a = false := by rw [hasR_s h3, b2i_0 h_27, decide_eq_false (fun h => h_38 (by rw [← h]; rfl))]; rfl
            refine V_iconst C 0 dX4_keep_45 (by decide) ?_
            refine V_istore_n C dX4_keep_46 (by decide) ?_
            refine V_inc1 C dX4_keep_47 (by rfl) (by decide) ?_
            refine V_goto C 17 dX4_keep_50 (by decide) ?_
            refine VV.loc [(0, .ref mo), (1, .int (nI a)), (2, .int (nI (gRb σ (gSv σ - 1)))), (3, .int (b2i (hasR σ (gRb σ (gSv σ - 1)) (t + 1) a))), (4, .int (nI (t + 1)))] ⟨rfl, rfl, rfl, (by rw [e9]; rfl), (by rw [← nI_1]; rfl), trivial⟩ ?_
            exact ih (t + 1) (by omega) (by omega) (by omega)
          · have e9 : hasR σ (gRb σ (gSv σ - 1)) (t + 1) a = true := by rw [hasR_s h3, decide_eq_true ((nI_eq (hpl t h3 ht2) (by omega)).mp h_38), Bool.or_true]
            refine V_iconst C 1 dX4_keep_41 (by decide) ?_
            refine V_goto C 46 dX4_keep_42 (by decide) ?_
            refine V_istore_n C dX4_keep_46 (by decide) ?_
            refine V_inc1 C dX4_keep_47 (by rfl) (by decide) ?_
            refine V_goto C 17 dX4_keep_50 (by decide) ?_
            refine VV.loc [(0, .ref mo), (1, .int (nI a)), (2, .int (nI (gRb σ (gSv σ - 1)))), (3, .int (b2i (hasR σ (gRb σ (gSv σ - 1)) (t + 1) a))), (4, .int (nI (t + 1)))] ⟨rfl, rfl, rfl, (by rw [e9]; rfl), (by rw [← nI_1]; rfl), trivial⟩ ?_
            exact ih (t + 1) (by omega) (by omega) (by omega)
      · exact ih t (by omega) h2 h3
  refine V_aload_n C dX4_keep_0 (by rfl) ?_
  refine V_get C (ci := 4) hH.1.1 rfl wu_X4 13 (by decide) fl_X4_32 rfl (by rfl) dX4_keep_1 ?_
  refine V_aload_n C dX4_keep_4 (by rfl) ?_
  refine V_get C (ci := 4) hH.1.1 rfl wu_X4 8 (by decide) fl_X4_64 rfl (by rfl) dX4_keep_5 ?_
  refine V_iconst C (1) dX4_keep_8 (by decide) ?_
  refine V_isub C dX4_keep_9 ?_
  refine V_top (pk_sub (b := 1) h0) ?_
  refine Y_ild C hH rfl (by omega) (by decide) dX4_keep_10 ?_
  refine V_istore_n C dX4_keep_11 (by decide) ?_
  refine V_iconst C (0) dX4_keep_12 (by decide) ?_
  refine V_istore_n C dX4_keep_13 (by decide) ?_
  refine V_iload_n C dX4_keep_14 (by rfl) ?_
  refine V_istore C dX4_keep_15 (by decide) ?_
  refine VV.loc [(0, .ref mo), (1, .int (nI a)), (2, .int (nI (gRb σ (gSv σ - 1)))), (3, .int (b2i (hasR σ (gRb σ (gSv σ - 1)) (gRb σ (gSv σ - 1)) a))), (4, .int (nI (gRb σ (gSv σ - 1))))] ⟨rfl, rfl, rfl, (by rw [hasR_0]; rfl), rfl, trivial⟩ ?_
  exact loop (gRows σ) (gRb σ (gSv σ - 1)) (by omega) (r1 _ (by omega)) (Nat.le_refl _)
set_option maxHeartbeats 4000000 in
set_option maxRecDepth 100000 in
theorem m_put (l : Launch) (hl : l.stackTraces = false) (base : Nat) (D : va_G) (ct : Nat → ClassId) (sa : Nat → Nat) {B G : Nat → Nat} {σ : Sg} {th : Int32} {M : Mem} {mo K : Nat} (hR : RepM ct B G σ th M mo) (hI : Inv K σ) (hB : K < 600) (k i v : Int32) :
    CT l yX4_put (.code yX4_put cX4_put 6 (some .int) :: WL) (rmK 3 0 0) base D ct sa M [.ref mo, .int k, .int i, .int v] (PostM ct B G M mo (oPut σ k i v)) noX := by
  refine CT.of hl (by decide) (Nat.le_of_ble_eq_true rfl) ?_
  intro p e s m below meth c C hr hx
  have hH : HM ct B G M σ th M mo := hR.hold
  obtain ⟨⟨i1, i2, i3, i4, i5, i6, i7, i8⟩, ⟨t1, t2, t3, t4⟩, ⟨s1, s2, s3, s4⟩, ⟨r1, r2, r3, r4, r5, r6⟩, ⟨v1, v2⟩, v3⟩ := id hI
  have tlE : ∀ cd : Nat, 0 < cd → cd ≤ 3 → oPut σ k i v = (cd, 0, σ) → VV p l e (rmK 3 0 0) s m ([.ref mo, .int k, .int i, .int v] : List Value).toArray below meth c 6 base D (QB base D (PostM ct B G M mo (oPut σ k i v)) noX below ([.ref mo, .int k, .int i, .int v] : List Value).toArray s 0 0) M 0 0 61 [(0, .ref mo), (1, .int k), (2, .int i), (3, .int v)] [.int (nI cd), .ref mo] := by
    intro cd hc0 hc3 hce
    refine Y_put C hH (σ) (nI cd) 0 (by decide) fl_X4_50 rfl rfl (by rfl) (by rfl) (by rfl) rfl dX4_put_61 (fun M1 hH => ?_)
    refine V_aload_n C dX4_put_64 (by rfl) ?_
    refine V_get C (ci := 4) hH.1.1 rfl wu_X4 0 (by decide) fl_X4_50 rfl (by rfl) dX4_put_65 ?_
    refine V_if_le C 73 dX4_put_68 (by decide) (fun h_68 => absurd h_68 (nI_nle hc0 (by omega))) (fun h_68 => ?_)
    refine V_iconst C (0) dX4_put_71 (by decide) ?_
    exact V_iret C hr (by decide) (by decide) dX4_put_72 ⟨by rw [hce], by rw [hce]; exact hH⟩
  refine V_aload_n C dX4_put_0 (by rfl) ?_
  refine V_aload_n C dX4_put_1 (by rfl) ?_
  refine V_iload_n C dX4_put_2 (by rfl) ?_
  refine V_callV C hx (As := [.int k]) (m_isObject l hl base D ct sa hR hI hB k) w_X4_57 hH.1.1 rfl rfl (by decide) (Nat.le_of_ble_eq_true rfl) ⟨by decide, by decide⟩ dX4_put_3 (by decide) (by decide) (fun _ _ h => h) (fun v9 M9 hv9 => ?_)
  obtain ⟨rfl, rfl⟩ := hv9
  refine VV.eqv (st' := [.int (b2i (isO σ k)), .ref mo]) rfl rfl ?_
  refine V_if_eq C 17 dX4_put_6 (by decide) (fun h_6 => ?_) (fun h_6 => ?_)
  · have hk := b2i_0 h_6
    refine V_iconst C (nI 1) dX4_put_17 (by decide) ?_
    refine V_goto C 61 dX4_put_18 (by decide) ?_
    refine VV.loc [(0, .ref mo), (1, .int k), (2, .int i), (3, .int v)] ⟨rfl, rfl, rfl, rfl, trivial⟩ ?_
    exact tlE 1 (by decide) (by decide) (by rw [oPut, if_pos (Or.inl hk)])
  · have hk := b2i_1 h_6
    refine V_aload_n C dX4_put_9 (by rfl) ?_
    refine V_iload_n C dX4_put_10 (by rfl) ?_
    refine V_callV C hx (As := [.int v]) (m_isValue l hl base D ct sa hR hI hB v) w_X4_70 hH.1.1 rfl rfl (by decide) (Nat.le_of_ble_eq_true rfl) ⟨by decide, by decide⟩ dX4_put_11 (by decide) (by decide) (fun _ _ h => h) (fun v7 M7 hv7 => ?_)
    obtain ⟨rfl, rfl⟩ := hv7
    refine VV.eqv (st' := [.int (b2i (isV σ v)), .ref mo]) rfl rfl ?_
    refine V_if_ne C 21 dX4_put_14 (by decide) (fun h_14 => ?_) (fun h_14 => ?_)
    · have hv := b2i_1 h_14
      refine V_iload_n C dX4_put_21 (by rfl) ?_
      refine V_callS C hx (As := [.int i]) (m_isEight l hl base D ct sa M7 i) w_X4_73 rfl (by decide) (Nat.le_of_ble_eq_true rfl) ⟨by decide, by decide⟩ dX4_put_22 (by decide) (by decide) (fun _ _ h => h) (fun v8 M8 hv8 => ?_)
      obtain ⟨rfl, rfl⟩ := hv8
      refine VV.eqv (st' := [.int (b2i (isN 8 i)), .ref mo]) rfl rfl ?_
      refine V_if_ne C 32 dX4_put_25 (by decide) (fun h_25 => ?_) (fun h_25 => ?_)
      · have hi := b2i_1 h_25
        obtain ⟨o, rfl, ho, ht, eo⟩ := isO_of hk (by omega)
        obtain ⟨j, hj, rfl, ej⟩ := isN_of hi (by decide)
        have hst : ¬ (gGlob σ o = 1 ∧ v < 0 ∧ gGlob σ (rfOf v) = 0) → oPut σ (nI o) (nI j) v = (0, gCe σ (8 * o + j), sw (if kept σ o (8 * o + j) then doKeep σ (8 * o + j) else σ) 0 (va_up (σ.2 0) (8 * o + j) v)) := by
          intro h
          unfold oPut
          rw [if_neg (by rw [hk, hv]; simp), if_neg (by rw [hi]; simp), eo, ej, if_neg h]
        have tl2 : ¬ (gGlob σ o = 1 ∧ v < 0 ∧ gGlob σ (rfOf v) = 0) → ∀ M1 : Mem, HM ct B G M8 (if kept σ o (8 * o + j) then doKeep σ (8 * o + j) else σ) 0 M1 mo → VV p l e (rmK 3 0 0) s m ([.ref mo, .int (nI o), .int (nI j), .int v] : List Value).toArray below meth c 6 base D (QB base D (PostM ct B G M8 mo (oPut σ (nI o) (nI j) v)) noX below ([.ref mo, .int (nI o), .int (nI j), .int v] : List Value).toArray s 0 0) M1 0 0 127 [(0, .ref mo), (1, .int (nI o)), (2, .int (nI j)), (3, .int v), (4, .int (nI (8 * o + j))), (5, .int (gCe σ (8 * o + j)))] [] := by
          intro hng M1 hH
          refine V_aload_n C dX4_put_127 (by rfl) ?_
          refine V_get C (ci := 4) hH.1.1 rfl wu_X4 5 (by decide) fl_X4_16 rfl (by rfl) dX4_put_128 ?_
          refine V_iload C dX4_put_131 (by rfl) ?_
          refine V_iload_n C dX4_put_133 (by rfl) ?_
          refine Y_ist C hH (sw (if kept σ o (8 * o + j) then doKeep σ (8 * o + j) else σ) 0 (va_up (σ.2 0) (8 * o + j) v)) rfl (by omega) (by decide) rfl (fun i _ => by show va_up ((if kept σ o (8 * o + j) then doKeep σ (8 * o + j) else σ).2 0) (8 * o + j) v i = va_up (σ.2 0) (8 * o + j) v i; congr 1; split <;> rfl) ho_5 (fun _ => rfl) dX4_put_134 (fun M1 hH => ?_)
          refine V_iload C dX4_put_135 (by rfl) ?_
          exact V_iret C hr (by decide) (by decide) dX4_put_137 (by rw [hst hng]; exact ⟨rfl, hH⟩)
        have tl0 : ¬ (gGlob σ o = 1 ∧ v < 0 ∧ gGlob σ (rfOf v) = 0) → VV p l e (rmK 3 0 0) s m ([.ref mo, .int (nI o), .int (nI j), .int v] : List Value).toArray below meth c 6 base D (QB base D (PostM ct B G M8 mo (oPut σ (nI o) (nI j) v)) noX below ([.ref mo, .int (nI o), .int (nI j), .int v] : List Value).toArray s 0 0) M8 0 0 60 [(0, .ref mo), (1, .int (nI o)), (2, .int (nI j)), (3, .int v)] [.ref mo] := by
          intro hng
          refine V_iconst C (0) dX4_put_60 (by decide) ?_
          refine Y_put C hH (σ) (0) 0 (by decide) fl_X4_50 rfl rfl (by rfl) (by rfl) (by rfl) rfl dX4_put_61 (fun M1 hH => ?_)
          refine V_aload_n C dX4_put_64 (by rfl) ?_
          refine V_get C (ci := 4) hH.1.1 rfl wu_X4 0 (by decide) fl_X4_50 rfl (by rfl) dX4_put_65 ?_
          refine V_if_le C 73 dX4_put_68 (by decide) (fun h_68 => ?_) (fun h_68 => absurd h_68 (fun h => h (Int32.le_refl _)))
          refine V_bipush C (nI 8) dX4_put_73 (by decide) ?_
          refine V_iload_n C dX4_put_75 (by rfl) ?_
          refine V_imul C dX4_put_76 ?_
          refine V_iload_n C dX4_put_77 (by rfl) ?_
          refine V_iadd C dX4_put_78 ?_
          refine V_top (y := nI (8 * o + j)) (by rw [pk_mul, nI_add]) ?_
          refine V_istore C dX4_put_79 (by decide) ?_
          refine V_aload_n C dX4_put_81 (by rfl) ?_
          refine V_get C (ci := 4) hH.1.1 rfl wu_X4 5 (by decide) fl_X4_16 rfl (by rfl) dX4_put_82 ?_
          refine V_iload C dX4_put_85 (by rfl) ?_
          refine Y_ild C hH rfl (by omega) (by decide) dX4_put_87 ?_
          refine V_istore C dX4_put_88 (by decide) ?_
          refine V_aload_n C dX4_put_90 (by rfl) ?_
          refine V_get C (ci := 4) hH.1.1 rfl wu_X4 8 (by decide) fl_X4_64 rfl (by rfl) dX4_put_91 ?_
          refine V_if_le C 127 dX4_put_94 (by decide) (fun h_94 => ?_) (fun h_94 => ?_)
          · refine VV.loc [(0, .ref mo), (1, .int (nI o)), (2, .int (nI j)), (3, .int v), (4, .int (nI (8 * o + j))), (5, .int (gCe σ (8 * o + j)))] ⟨rfl, rfl, rfl, rfl, rfl, rfl, trivial⟩ ?_
            exact tl2 hng M1 (hH.eq (by rw [if_neg (by simp only [kept]; rw [decide_eq_false (fun h => nI_nle h.1 (by omega) h_94)]; simp)]))
          · have h0 : 0 < gSv σ := Nat.pos_of_ne_zero (fun h => h_94 (by rw [h]; exact Int32.le_refl _))
            refine V_aload_n C dX4_put_97 (by rfl) ?_
            refine V_get C (ci := 4) hH.1.1 rfl wu_X4 4 (by decide) fl_X4_13 rfl (by rfl) dX4_put_98 ?_
            refine V_iload_n C dX4_put_101 (by rfl) ?_
            refine Y_zld C hH rfl (by omega) (by decide) dX4_put_102 ?_
            refine V_if_ne C 127 dX4_put_103 (by decide) (fun h_103 => ?_) (fun h_103 => ?_)
            · refine VV.loc [(0, .ref mo), (1, .int (nI o)), (2, .int (nI j)), (3, .int v), (4, .int (nI (8 * o + j))), (5, .int (gCe σ (8 * o + j)))] ⟨rfl, rfl, rfl, rfl, rfl, rfl, trivial⟩ ?_
              exact tl2 hng M1 (hH.eq (by rw [if_neg (by simp only [kept]; rw [decide_eq_false (fun h => h_103 (by show nI (gGlob σ o) = 0; rw [h.2.1]; exact nI_0))]; simp)]))
            · have hg0 : gGlob σ o = 0 := (nI_b (t2 o)).1 h_103
              refine V_iload_n C dX4_put_106 (by rfl) ?_
              refine V_aload_n C dX4_put_107 (by rfl) ?_
              refine V_get C (ci := 4) hH.1.1 rfl wu_X4 12 (by decide) fl_X4_29 rfl (by rfl) dX4_put_108 ?_
              refine V_aload_n C dX4_put_111 (by rfl) ?_
              refine V_get C (ci := 4) hH.1.1 rfl wu_X4 8 (by decide) fl_X4_64 rfl (by rfl) dX4_put_112 ?_
              refine V_iconst C (1) dX4_put_115 (by decide) ?_
              refine V_isub C dX4_put_116 ?_
              refine V_top (pk_sub (b := 1) h0) ?_
              refine Y_ild C hH rfl (by omega) (by decide) dX4_put_117 ?_
              refine V_icmp_ge C 127 dX4_put_118 (by decide) (fun h_118 => ?_) (fun h_118 => ?_)
              · refine VV.loc [(0, .ref mo), (1, .int (nI o)), (2, .int (nI j)), (3, .int v), (4, .int (nI (8 * o + j))), (5, .int (gCe σ (8 * o + j)))] ⟨rfl, rfl, rfl, rfl, rfl, rfl, trivial⟩ ?_
                exact tl2 hng M1 (hH.eq (by rw [if_neg (by simp only [kept]; rw [decide_eq_false (fun h => absurd ((nI_leI (a := gFst σ (gSv σ - 1)) (by have := s3 (gSv σ - 1) (by omega); omega) (by omega)).mp h_118) (by omega))]; simp)]))
              · have hf9 : o < gFst σ (gSv σ - 1) := Nat.lt_of_not_le (fun h => h_118 (nI_le h (by omega)))
                refine V_aload_n C dX4_put_121 (by rfl) ?_
                refine V_iload C dX4_put_122 (by rfl) ?_
                refine V_callV C hx (As := [.int (nI (8 * o + j))]) (m_keep l hl base D ct sa hH.1 hI hB (a := 8 * o + j) (by omega) h0) w_X4_76 hH.1.1 rfl rfl (by decide) (Nat.le_of_ble_eq_true rfl) ⟨by decide, by decide⟩ dX4_put_124 (by decide) (by decide) (fun _ _ h => h) (fun v6 M6 hv6 => ?_)
                obtain ⟨rfl, hK⟩ := hv6
                refine VV.loc [(0, .ref mo), (1, .int (nI o)), (2, .int (nI j)), (3, .int v), (4, .int (nI (8 * o + j))), (5, .int (gCe σ (8 * o + j)))] ⟨rfl, rfl, rfl, rfl, rfl, rfl, trivial⟩ ?_
                exact tl2 hng M6 ((hH.trans hK).eq (by unfold afterK kept; rw [decide_eq_true ⟨h0, hg0, hf9⟩]; cases hasR σ (gRb σ (gSv σ - 1)) (gRows σ) (8 * o + j) <;> rfl))
        refine V_aload_n C dX4_put_32 (by rfl) ?_
        refine V_get C (ci := 4) hH.1.1 rfl wu_X4 4 (by decide) fl_X4_13 rfl (by rfl) dX4_put_33 ?_
        refine V_iload_n C dX4_put_36 (by rfl) ?_
        refine Y_zld C hH rfl (by omega) (by decide) dX4_put_37 ?_
        refine V_if_eq C 60 dX4_put_38 (by decide) (fun h_38 => ?_) (fun h_38 => ?_)
        · refine VV.loc [(0, .ref mo), (1, .int (nI o)), (2, .int (nI j)), (3, .int v)] ⟨rfl, rfl, rfl, rfl, trivial⟩ ?_
          exact tl0 (fun h => absurd ((nI_b (t2 o)).1 h_38) (by omega))
        · have hg1 : gGlob σ o = 1 := (nI_b (t2 o)).2 h_38
          refine V_iload_n C dX4_put_41 (by rfl) ?_
          refine V_if_ge C 60 dX4_put_42 (by decide) (fun h_42 => ?_) (fun h_42 => ?_)
          · refine VV.loc [(0, .ref mo), (1, .int (nI o)), (2, .int (nI j)), (3, .int v)] ⟨rfl, rfl, rfl, rfl, trivial⟩ ?_
            exact tl0 (fun h => absurd h.2.1 (Int32.not_lt.mpr h_42))
          · have hv0 : v < 0 := Int32.not_le.mp h_42
            have hvo : isO σ (-1 - v) = true := by simpa [isV, h_42] using hv
            obtain ⟨o2, eo2, ho2, ht2, ec2⟩ := isO_of hvo (by omega)
            have er : rfOf v = o2 := ec2
            refine V_aload_n C dX4_put_45 (by rfl) ?_
            refine V_get C (ci := 4) hH.1.1 rfl wu_X4 4 (by decide) fl_X4_13 rfl (by rfl) dX4_put_46 ?_
            refine V_iconst C (-1) dX4_put_49 (by decide) ?_
            refine V_iload_n C dX4_put_50 (by rfl) ?_
            refine V_isub C dX4_put_51 ?_
            refine V_top eo2 ?_
            refine Y_zld C hH rfl (by omega) (by decide) dX4_put_52 ?_
            refine V_if_ne C 60 dX4_put_53 (by decide) (fun h_53 => ?_) (fun h_53 => ?_)
            · refine VV.loc [(0, .ref mo), (1, .int (nI o)), (2, .int (nI j)), (3, .int v)] ⟨rfl, rfl, rfl, rfl, trivial⟩ ?_
              exact tl0 (fun h => absurd ((nI_b (t2 o2)).2 h_53) (by rw [← er]; omega))
            · have hg2 : gGlob σ (rfOf v) = 0 := by rw [er]; exact (nI_b (t2 o2)).1 h_53
              refine V_iconst C (nI 3) dX4_put_56 (by decide) ?_
              refine V_goto C 61 dX4_put_57 (by decide) ?_
              refine VV.loc [(0, .ref mo), (1, .int (nI o)), (2, .int (nI j)), (3, .int v)] ⟨rfl, rfl, rfl, rfl, trivial⟩ ?_
              exact tlE 3 (by decide) (by decide) (by unfold oPut; rw [if_neg (by rw [hk, hv]; simp), if_neg (by rw [hi]; simp), eo, if_pos ⟨hg1, hv0, hg2⟩])
      · have hi := b2i_0 h_25
        refine V_iconst C (nI 2) dX4_put_28 (by decide) ?_
        refine V_goto C 61 dX4_put_29 (by decide) ?_
        refine VV.loc [(0, .ref mo), (1, .int k), (2, .int i), (3, .int v)] ⟨rfl, rfl, rfl, rfl, trivial⟩ ?_
        exact tlE 2 (by decide) (by decide) (by rw [oPut, if_neg (by rw [hk, hv]; simp), if_pos hi])
    · have hv := b2i_0 h_14
      refine V_iconst C (nI 1) dX4_put_17 (by decide) ?_
      refine V_goto C 61 dX4_put_18 (by decide) ?_
      refine VV.loc [(0, .ref mo), (1, .int k), (2, .int i), (3, .int v)] ⟨rfl, rfl, rfl, rfl, trivial⟩ ?_
      exact tlE 1 (by decide) (by decide) (by rw [oPut, if_pos (Or.inr hv)])
end
section
/-! the reference: save, push, pop -/
theorem cpy_s {f g : Nat → Int32} {sp dp n : Nat} {x : Int32} (hx : x = f (sp + n)) (j : Nat) : va_up (va_cpy f g sp dp n) (dp + n) x j = va_cpy f g sp dp (n + 1) j := by
  subst hx
  by_cases e : j = dp + n
  · subst e
    rw [va_up_self, pk_cpy_in (by omega) (by omega)]
    congr 1
    omega
  · rw [va_up_ne _ _ e]
    by_cases h : dp ≤ j ∧ j < dp + n
    · rw [pk_cpy_in h.1 h.2, pk_cpy_in h.1 (by omega)]
    · rw [pk_cpy_out (by omega), pk_cpy_out (by omega)]
theorem cpy_0 {f g : Nat → Int32} {sp dp : Nat} : va_cpy f g sp dp 0 = g := by
  funext j
  exact pk_cpy_out (by omega)
set_option maxHeartbeats 4000000 in
set_option maxRecDepth 100000 in
theorem m_save (l : Launch) (hl : l.stackTraces = false) (base : Nat) (D : va_G) (ct : Nat → ClassId) (sa : Nat → Nat) {B G : Nat → Nat} {σ : Sg} {th : Int32} {M : Mem} {mo K : Nat} (hR : RepM ct B G σ th M mo) (hI : Inv K σ) (hB : K < 600)  :
    CT l yX4_save (.code yX4_save cX4_save 2 (some .int) :: WL) (rmK 1 0 0) base D ct sa M [.ref mo] (PostM ct B G M mo (oSave σ)) noX := by
  refine CT.of hl (by decide) (Nat.le_of_ble_eq_true rfl) ?_
  intro p e s m below meth c C hr hx
  have hH : HM ct B G M σ th M mo := hR.hold
  obtain ⟨⟨i1, i2, i3, i4, i5, i6, i7, i8⟩, ⟨t1, t2, t3, t4⟩, ⟨s1, s2, s3, s4⟩, ⟨r1, r2, r3, r4, r5, r6⟩, ⟨v1, v2⟩, v3⟩ := id hI
  have tlE : ∀ cd : Nat, 0 < cd → cd ≤ 3 → oSave σ = (cd, 0, σ) → VV p l e (rmK 1 0 0) s m ([.ref mo] : List Value).toArray below meth c 2 base D (QB base D (PostM ct B G M mo (oSave σ)) noX below ([.ref mo] : List Value).toArray s 0 0) M 0 0 15 [(0, .ref mo)] [.int (nI cd), .ref mo] := by
    intro cd hc0 hc3 hce
    refine Y_put C hH (σ) (nI cd) 0 (by decide) fl_X4_50 rfl rfl (by rfl) (by rfl) (by rfl) rfl dX4_save_15 (fun M1 hH => ?_)
    refine V_aload_n C dX4_save_18 (by rfl) ?_
    refine V_get C (ci := 4) hH.1.1 rfl wu_X4 0 (by decide) fl_X4_50 rfl (by rfl) dX4_save_19 ?_
    refine V_if_le C 27 dX4_save_22 (by decide) (fun h_22 => absurd h_22 (nI_nle hc0 (by omega))) (fun h_22 => ?_)
    refine V_iconst C (0) dX4_save_25 (by decide) ?_
    exact V_iret C hr (by decide) (by decide) dX4_save_26 ⟨by rw [hce], by rw [hce]; exact hH⟩
  refine V_aload_n C dX4_save_0 (by rfl) ?_
  refine V_aload_n C dX4_save_1 (by rfl) ?_
  refine V_get C (ci := 4) hH.1.1 rfl wu_X4 8 (by decide) fl_X4_64 rfl (by rfl) dX4_save_2 ?_
  refine V_bipush C (nI 16) dX4_save_5 (by decide) ?_
  refine V_icmp_ne C 14 dX4_save_7 (by decide) (fun h_7 => ?_) (fun h_7 => ?_)
  · have h16 : ¬ gSv σ = 16 := fun h => h_7 (by rw [h])
    have h15 : gSv σ < 16 := by omega
    have loop : ∀ d t : Nat, 10 ≤ t + d → t ≤ 10 → ∀ M1 : Mem, HM ct B G M (sw (sf (sf (sf (sf (sf σ 5 (sk (gLast σ + 1))) 7 (va_up (σ.1 7) (gSv σ) (gLast σ + 1))) 8 (va_up (σ.1 8) (gSv σ) (gMade σ))) 9 (va_up (σ.1 9) (gSv σ) (gRows σ))) 10 (va_up (σ.1 10) (gSv σ) (gSt σ))) 3 (va_cpy (σ.2 2) (σ.2 3) 0 (10 * gSv σ) t)) 0 M1 mo → VV p l e (rmK 1 0 0) s m ([.ref mo] : List Value).toArray below meth c 2 base D (QB base D (PostM ct B G M mo (oSave σ)) noX below ([.ref mo] : List Value).toArray s 0 0) M1 0 0 91 [(0, .ref mo), (1, .int (nI t))] [] := by
      intro d
      induction d with
      | zero =>
        intro t h1 h2 M1 hH
        have htt : t = 10 := by omega
        subst htt
        refine V_iload_n C dX4_save_91 (by rfl) ?_
        refine V_bipush C (nI 10) dX4_save_92 (by decide) ?_
        refine V_icmp_ge C 123 dX4_save_94 (by decide) (fun h_94 => ?_) (fun h_94 => absurd h_94 (fun h => h (Int32.le_refl _)))
        refine V_aload_n C dX4_save_123 (by rfl) ?_
        refine V_dup C dX4_save_124 rfl ?_
        refine V_get C (ci := 4) hH.1.1 rfl wu_X4 8 (by decide) fl_X4_64 rfl (by rfl) dX4_save_125 ?_
        refine V_iconst C (1) dX4_save_128 (by decide) ?_
        refine V_iadd C dX4_save_129 ?_
        refine V_top (y := nI (gSv σ + 1)) (nI_1 _) ?_
        refine Y_put C hH (sf (sw (sf (sf (sf (sf (sf σ 5 (sk (gLast σ + 1))) 7 (va_up (σ.1 7) (gSv σ) (gLast σ + 1))) 8 (va_up (σ.1 8) (gSv σ) (gMade σ))) 9 (va_up (σ.1 9) (gSv σ) (gRows σ))) 10 (va_up (σ.1 10) (gSv σ) (gSt σ))) 3 (va_cpy (σ.2 2) (σ.2 3) 0 (10 * gSv σ) 10)) 4 (sk (gSv σ + 1))) (0) 8 (by decide) fl_X4_64 rfl rfl (by rfl) (by rfl) (by rfl) os_4 dX4_save_130 (fun M1 hH => ?_)
        refine V_aload_n C dX4_save_133 (by rfl) ?_
        refine V_aload_n C dX4_save_134 (by rfl) ?_
        refine V_get C (ci := 4) hH.1.1 rfl wu_X4 8 (by decide) fl_X4_64 rfl (by rfl) dX4_save_135 ?_
        refine V_aload_n C dX4_save_138 (by rfl) ?_
        refine V_get C (ci := 4) hH.1.1 rfl wu_X4 10 (by decide) fl_X4_86 rfl (by rfl) dX4_save_139 ?_
        refine V_icmp_le C 152 dX4_save_142 (by decide) (fun h_142 => ?_) (fun h_142 => ?_)
        · have h9 : gSv σ + 1 ≤ gDeep σ := (nI_leI (by omega) (by omega)).mp h_142
          refine V_aload_n C dX4_save_152 (by rfl) ?_
          refine V_get C (ci := 4) hH.1.1 rfl wu_X4 10 (by decide) fl_X4_86 rfl (by rfl) dX4_save_153 ?_
          refine V_top (y := nI (max (gDeep σ) (gSv σ + 1))) (show nI (gDeep σ) = _ by rw [Nat.max_eq_left h9]) ?_
          refine Y_put C hH (sf (sf (sw (sf (sf (sf (sf (sf σ 5 (sk (gLast σ + 1))) 7 (va_up (σ.1 7) (gSv σ) (gLast σ + 1))) 8 (va_up (σ.1 8) (gSv σ) (gMade σ))) 9 (va_up (σ.1 9) (gSv σ) (gRows σ))) 10 (va_up (σ.1 10) (gSv σ) (gSt σ))) 3 (va_cpy (σ.2 2) (σ.2 3) 0 (10 * gSv σ) 10)) 4 (sk (gSv σ + 1))) 6 (sk (max (gDeep σ) (gSv σ + 1)))) 0 10 (by decide) fl_X4_86 rfl rfl (by rfl) (by rfl) (by rfl) os_6 dX4_save_156 (fun M1 hH => ?_)
          refine V_aload_n C dX4_save_159 (by rfl) ?_
          refine V_get C (ci := 4) hH.1.1 rfl wu_X4 9 (by decide) fl_X4_80 rfl (by rfl) dX4_save_160 ?_
          exact V_iret C hr (by decide) (by decide) dX4_save_163 (by rw [show oSave σ = (0, nI (gLast σ + 1), sf (sf (sw (sf (sf (sf (sf (sf σ 5 (sk (gLast σ + 1))) 7 (va_up (σ.1 7) (gSv σ) (gLast σ + 1))) 8 (va_up (σ.1 8) (gSv σ) (gMade σ))) 9 (va_up (σ.1 9) (gSv σ) (gRows σ))) 10 (va_up (σ.1 10) (gSv σ) (gSt σ))) 3 (va_cpy (σ.2 2) (σ.2 3) 0 (10 * gSv σ) 10)) 4 (sk (gSv σ + 1))) 6 (sk (max (gDeep σ) (gSv σ + 1)))) by rw [oSave, if_neg h16]]; exact ⟨rfl, hH⟩)
        · have h9 : gDeep σ ≤ gSv σ + 1 := Nat.le_of_lt (Nat.lt_of_not_le (fun h => h_142 (nI_le h (show gDeep σ < 2 ^ 31 by omega))))
          refine V_aload_n C dX4_save_145 (by rfl) ?_
          refine V_get C (ci := 4) hH.1.1 rfl wu_X4 8 (by decide) fl_X4_64 rfl (by rfl) dX4_save_146 ?_
          refine V_goto C 156 dX4_save_149 (by decide) ?_
          refine V_top (y := nI (max (gDeep σ) (gSv σ + 1))) (show nI (gSv σ + 1) = _ by rw [Nat.max_eq_right h9]) ?_
          refine Y_put C hH (sf (sf (sw (sf (sf (sf (sf (sf σ 5 (sk (gLast σ + 1))) 7 (va_up (σ.1 7) (gSv σ) (gLast σ + 1))) 8 (va_up (σ.1 8) (gSv σ) (gMade σ))) 9 (va_up (σ.1 9) (gSv σ) (gRows σ))) 10 (va_up (σ.1 10) (gSv σ) (gSt σ))) 3 (va_cpy (σ.2 2) (σ.2 3) 0 (10 * gSv σ) 10)) 4 (sk (gSv σ + 1))) 6 (sk (max (gDeep σ) (gSv σ + 1)))) 0 10 (by decide) fl_X4_86 rfl rfl (by rfl) (by rfl) (by rfl) os_6 dX4_save_156 (fun M1 hH => ?_)
          refine V_aload_n C dX4_save_159 (by rfl) ?_
          refine V_get C (ci := 4) hH.1.1 rfl wu_X4 9 (by decide) fl_X4_80 rfl (by rfl) dX4_save_160 ?_
          exact V_iret C hr (by decide) (by decide) dX4_save_163 (by rw [show oSave σ = (0, nI (gLast σ + 1), sf (sf (sw (sf (sf (sf (sf (sf σ 5 (sk (gLast σ + 1))) 7 (va_up (σ.1 7) (gSv σ) (gLast σ + 1))) 8 (va_up (σ.1 8) (gSv σ) (gMade σ))) 9 (va_up (σ.1 9) (gSv σ) (gRows σ))) 10 (va_up (σ.1 10) (gSv σ) (gSt σ))) 3 (va_cpy (σ.2 2) (σ.2 3) 0 (10 * gSv σ) 10)) 4 (sk (gSv σ + 1))) 6 (sk (max (gDeep σ) (gSv σ + 1)))) by rw [oSave, if_neg h16]]; exact ⟨rfl, hH⟩)
      | succ d ih =>
        intro t h1 h2 M1 hH
        rcases Nat.lt_or_ge t 10 with ht2 | ht2
        · refine V_iload_n C dX4_save_91 (by rfl) ?_
          refine V_bipush C (nI 10) dX4_save_92 (by decide) ?_
          refine V_icmp_ge C 123 dX4_save_94 (by decide) (fun h_94 => absurd h_94 (fun h => absurd ((nI_leI (by omega) (by omega)).mp h) (by omega))) (fun h_94 => ?_)
          refine V_aload_n C dX4_save_97 (by rfl) ?_
          refine V_get C (ci := 4) hH.1.1 rfl wu_X4 15 (by decide) fl_X4_38 rfl (by rfl) dX4_save_98 ?_
          refine V_bipush C (nI 10) dX4_save_101 (by decide) ?_
          refine V_aload_n C dX4_save_103 (by rfl) ?_
          refine V_get C (ci := 4) hH.1.1 rfl wu_X4 8 (by decide) fl_X4_64 rfl (by rfl) dX4_save_104 ?_
          refine V_imul C dX4_save_107 ?_
          refine V_iload_n C dX4_save_108 (by rfl) ?_
          refine V_iadd C dX4_save_109 ?_
          refine V_top (show nI 10 * nI (gSv σ) + nI t = nI (10 * gSv σ + t) by rw [pk_mul, nI_add]) ?_
          refine V_aload_n C dX4_save_110 (by rfl) ?_
          refine V_get C (ci := 4) hH.1.1 rfl wu_X4 7 (by decide) fl_X4_23 rfl (by rfl) dX4_save_111 ?_
          refine V_iload_n C dX4_save_114 (by rfl) ?_
          refine Y_ild C hH rfl ht2 (by decide) dX4_save_115 ?_
          refine Y_ist C hH (sw (sf (sf (sf (sf (sf σ 5 (sk (gLast σ + 1))) 7 (va_up (σ.1 7) (gSv σ) (gLast σ + 1))) 8 (va_up (σ.1 8) (gSv σ) (gMade σ))) 9 (va_up (σ.1 9) (gSv σ) (gRows σ))) 10 (va_up (σ.1 10) (gSv σ) (gSt σ))) 3 (va_cpy (σ.2 2) (σ.2 3) 0 (10 * gSv σ) (t + 1))) rfl (by omega) (by decide) rfl (fun i _ => cpy_s (show σ.2 2 t = σ.2 2 (0 + t) by rw [Nat.zero_add]) i) (fun q h => (ho_15 q h).trans (ho_15 q h).symm) (fun _ => rfl) dX4_save_116 (fun M1 hH => ?_)
          refine V_inc1 C dX4_save_117 (by rfl) (by decide) ?_
          refine V_goto C 91 dX4_save_120 (by decide) ?_
          refine VV.loc [(0, .ref mo), (1, .int (nI (t + 1)))] ⟨rfl, (by rw [← nI_1]; rfl), trivial⟩ ?_
          exact ih (t + 1) (by omega) (by omega) M1 hH
        · exact ih t (by omega) h2 M1 hH
    refine V_iconst C (0) dX4_save_14 (by decide) ?_
    refine Y_put C hH (σ) (0) 0 (by decide) fl_X4_50 rfl rfl (by rfl) (by rfl) (by rfl) rfl dX4_save_15 (fun M1 hH => ?_)
    refine V_aload_n C dX4_save_18 (by rfl) ?_
    refine V_get C (ci := 4) hH.1.1 rfl wu_X4 0 (by decide) fl_X4_50 rfl (by rfl) dX4_save_19 ?_
    refine V_if_le C 27 dX4_save_22 (by decide) (fun h_22 => ?_) (fun h_22 => absurd h_22 (fun h => h (Int32.le_refl _)))
    refine V_aload_n C dX4_save_27 (by rfl) ?_
    refine V_dup C dX4_save_28 rfl ?_
    refine V_get C (ci := 4) hH.1.1 rfl wu_X4 9 (by decide) fl_X4_80 rfl (by rfl) dX4_save_29 ?_
    refine V_iconst C (1) dX4_save_32 (by decide) ?_
    refine V_iadd C dX4_save_33 ?_
    refine V_top (y := nI (gLast σ + 1)) (nI_1 _) ?_
    refine Y_put C hH (sf σ 5 (sk (gLast σ + 1))) (0) 9 (by decide) fl_X4_80 rfl rfl (by rfl) (by rfl) (by rfl) os_5 dX4_save_34 (fun M1 hH => ?_)
    refine V_aload_n C dX4_save_37 (by rfl) ?_
    refine V_get C (ci := 4) hH.1.1 rfl wu_X4 11 (by decide) fl_X4_26 rfl (by rfl) dX4_save_38 ?_
    refine V_aload_n C dX4_save_41 (by rfl) ?_
    refine V_get C (ci := 4) hH.1.1 rfl wu_X4 8 (by decide) fl_X4_64 rfl (by rfl) dX4_save_42 ?_
    refine V_aload_n C dX4_save_45 (by rfl) ?_
    refine V_get C (ci := 4) hH.1.1 rfl wu_X4 9 (by decide) fl_X4_80 rfl (by rfl) dX4_save_46 ?_
    refine Y_ist C hH (sf (sf σ 5 (sk (gLast σ + 1))) 7 (va_up (σ.1 7) (gSv σ) (gLast σ + 1))) rfl h15 (by decide) rfl (fun i _ => nF_up (c := gLast σ + 1) rfl i) ho_11 (fun _ => rfl) dX4_save_49 (fun M1 hH => ?_)
    refine V_aload_n C dX4_save_50 (by rfl) ?_
    refine V_get C (ci := 4) hH.1.1 rfl wu_X4 12 (by decide) fl_X4_29 rfl (by rfl) dX4_save_51 ?_
    refine V_aload_n C dX4_save_54 (by rfl) ?_
    refine V_get C (ci := 4) hH.1.1 rfl wu_X4 8 (by decide) fl_X4_64 rfl (by rfl) dX4_save_55 ?_
    refine V_aload_n C dX4_save_58 (by rfl) ?_
    refine V_get C (ci := 4) hH.1.1 rfl wu_X4 1 (by decide) fl_X4_54 rfl (by rfl) dX4_save_59 ?_
    refine Y_ist C hH (sf (sf (sf σ 5 (sk (gLast σ + 1))) 7 (va_up (σ.1 7) (gSv σ) (gLast σ + 1))) 8 (va_up (σ.1 8) (gSv σ) (gMade σ))) rfl (show gSv σ < 16 from h15) (by decide) rfl (fun i _ => nF_up (c := gMade σ) rfl i) ho_12 (fun _ => rfl) dX4_save_62 (fun M1 hH => ?_)
    refine V_aload_n C dX4_save_63 (by rfl) ?_
    refine V_get C (ci := 4) hH.1.1 rfl wu_X4 13 (by decide) fl_X4_32 rfl (by rfl) dX4_save_64 ?_
    refine V_aload_n C dX4_save_67 (by rfl) ?_
    refine V_get C (ci := 4) hH.1.1 rfl wu_X4 8 (by decide) fl_X4_64 rfl (by rfl) dX4_save_68 ?_
    refine V_aload_n C dX4_save_71 (by rfl) ?_
    refine V_get C (ci := 4) hH.1.1 rfl wu_X4 16 (by decide) fl_X4_67 rfl (by rfl) dX4_save_72 ?_
    refine Y_ist C hH (sf (sf (sf (sf σ 5 (sk (gLast σ + 1))) 7 (va_up (σ.1 7) (gSv σ) (gLast σ + 1))) 8 (va_up (σ.1 8) (gSv σ) (gMade σ))) 9 (va_up (σ.1 9) (gSv σ) (gRows σ))) rfl (show gSv σ < 16 from h15) (by decide) rfl (fun i _ => nF_up (c := gRows σ) rfl i) ho_13 (fun _ => rfl) dX4_save_75 (fun M1 hH => ?_)
    refine V_aload_n C dX4_save_76 (by rfl) ?_
    refine V_get C (ci := 4) hH.1.1 rfl wu_X4 14 (by decide) fl_X4_35 rfl (by rfl) dX4_save_77 ?_
    refine V_aload_n C dX4_save_80 (by rfl) ?_
    refine V_get C (ci := 4) hH.1.1 rfl wu_X4 8 (by decide) fl_X4_64 rfl (by rfl) dX4_save_81 ?_
    refine V_aload_n C dX4_save_84 (by rfl) ?_
    refine V_get C (ci := 4) hH.1.1 rfl wu_X4 19 (by decide) fl_X4_83 rfl (by rfl) dX4_save_85 ?_
    refine Y_ist C hH (sf (sf (sf (sf (sf σ 5 (sk (gLast σ + 1))) 7 (va_up (σ.1 7) (gSv σ) (gLast σ + 1))) 8 (va_up (σ.1 8) (gSv σ) (gMade σ))) 9 (va_up (σ.1 9) (gSv σ) (gRows σ))) 10 (va_up (σ.1 10) (gSv σ) (gSt σ))) rfl (show gSv σ < 16 from h15) (by decide) rfl (fun i _ => nF_up (c := gSt σ) rfl i) ho_14 (fun _ => rfl) dX4_save_88 (fun M1 hH => ?_)
    refine V_iconst C (0) dX4_save_89 (by decide) ?_
    refine V_istore_n C dX4_save_90 (by decide) ?_
    refine VV.loc [(0, .ref mo), (1, .int (nI 0))] ⟨rfl, rfl, trivial⟩ ?_
    exact loop 10 0 (by omega) (by omega) M1 (hH.eq (show sf (sf (sf (sf (sf σ 5 (sk (gLast σ + 1))) 7 (va_up (σ.1 7) (gSv σ) (gLast σ + 1))) 8 (va_up (σ.1 8) (gSv σ) (gMade σ))) 9 (va_up (σ.1 9) (gSv σ) (gRows σ))) 10 (va_up (σ.1 10) (gSv σ) (gSt σ)) = sw (sf (sf (sf (sf (sf σ 5 (sk (gLast σ + 1))) 7 (va_up (σ.1 7) (gSv σ) (gLast σ + 1))) 8 (va_up (σ.1 8) (gSv σ) (gMade σ))) 9 (va_up (σ.1 9) (gSv σ) (gRows σ))) 10 (va_up (σ.1 10) (gSv σ) (gSt σ))) 3 (va_cpy (σ.2 2) (σ.2 3) 0 (10 * gSv σ) 0) by rw [cpy_0]; exact (sw_id (sf (sf (sf (sf (sf σ 5 (sk (gLast σ + 1))) 7 (va_up (σ.1 7) (gSv σ) (gLast σ + 1))) 8 (va_up (σ.1 8) (gSv σ) (gMade σ))) 9 (va_up (σ.1 9) (gSv σ) (gRows σ))) 10 (va_up (σ.1 10) (gSv σ) (gSt σ))) 3).symm))
  · have h16 : gSv σ = 16 := (nI_eq (by omega) (by decide)).mp h_7
    refine V_iconst C (nI 1) dX4_save_10 (by decide) ?_
    refine V_goto C 15 dX4_save_11 (by decide) ?_
    refine VV.loc [(0, .ref mo)] ⟨rfl, trivial⟩ ?_
    exact tlE 1 (by decide) (by decide) (by rw [oSave, if_pos h16])
set_option maxHeartbeats 4000000 in
set_option maxRecDepth 100000 in
theorem m_push (l : Launch) (hl : l.stackTraces = false) (base : Nat) (D : va_G) (ct : Nat → ClassId) (sa : Nat → Nat) {B G : Nat → Nat} {σ : Sg} {th : Int32} {M : Mem} {mo K : Nat} (hR : RepM ct B G σ th M mo) (hI : Inv K σ) (hB : K < 600)  :
    CT l yX4_push (.code yX4_push cX4_push 2 (some .int) :: WL) (rmK 2 0 0) base D ct sa M [.ref mo] (PostM ct B G M mo (oPush σ)) noX := by
  refine CT.of hl (by decide) (Nat.le_of_ble_eq_true rfl) ?_
  intro p e s m below meth c C hr hx
  have hH : HM ct B G M σ th M mo := hR.hold
  obtain ⟨⟨i1, i2, i3, i4, i5, i6, i7, i8⟩, ⟨t1, t2, t3, t4⟩, ⟨s1, s2, s3, s4⟩, ⟨r1, r2, r3, r4, r5, r6⟩, ⟨v1, v2⟩, v3⟩ := id hI
  have tlE : ∀ cd : Nat, 0 < cd → cd ≤ 3 → oPush σ = (cd, 0, σ) → VV p l e (rmK 2 0 0) s m ([.ref mo] : List Value).toArray below meth c 2 base D (QB base D (PostM ct B G M mo (oPush σ)) noX below ([.ref mo] : List Value).toArray s 0 0) M 0 0 15 [(0, .ref mo)] [.int (nI cd), .ref mo] := by
    intro cd hc0 hc3 hce
    refine Y_put C hH (σ) (nI cd) 0 (by decide) fl_X4_50 rfl rfl (by rfl) (by rfl) (by rfl) rfl dX4_push_15 (fun M1 hH => ?_)
    refine V_aload_n C dX4_push_18 (by rfl) ?_
    refine V_get C (ci := 4) hH.1.1 rfl wu_X4 0 (by decide) fl_X4_50 rfl (by rfl) dX4_push_19 ?_
    refine V_if_le C 27 dX4_push_22 (by decide) (fun h_22 => absurd h_22 (nI_nle hc0 (by omega))) (fun h_22 => ?_)
    refine V_iconst C (0) dX4_push_25 (by decide) ?_
    exact V_iret C hr (by decide) (by decide) dX4_push_26 ⟨by rw [hce], by rw [hce]; exact hH⟩
  refine V_aload_n C dX4_push_0 (by rfl) ?_
  refine V_aload_n C dX4_push_1 (by rfl) ?_
  refine V_get C (ci := 4) hH.1.1 rfl wu_X4 19 (by decide) fl_X4_83 rfl (by rfl) dX4_push_2 ?_
  refine V_bipush C (nI 30) dX4_push_5 (by decide) ?_
  refine V_icmp_ne C 14 dX4_push_7 (by decide) (fun h_7 => ?_) (fun h_7 => ?_)
  · have h30 : ¬ gSt σ = 30 := fun h => h_7 (by rw [h])
    have h29 : gSt σ < 30 := by omega
    have ho9 : ownS (sf (sw σ 5 (va_cpy (σ.2 2) (σ.2 5) 0 (8 * gSt σ) 8)) 13 (sk (gSt σ + 1))) = ownS σ + 1 := by
      show (if gSv σ = 0 then gSt σ + 1 else gSt σ + 1 - gSb σ (gSv σ - 1)) = (if gSv σ = 0 then gSt σ else gSt σ - gSb σ (gSv σ - 1)) + 1
      split
      · rfl
      · have := r3 (gSv σ - 1) (by omega)
        omega
    have loop : ∀ d t : Nat, 8 ≤ t + d → t ≤ 8 → ∀ M1 : Mem, HM ct B G M (sw σ 5 (va_cpy (σ.2 2) (σ.2 5) 0 (8 * gSt σ) t)) 0 M1 mo → VV p l e (rmK 2 0 0) s m ([.ref mo] : List Value).toArray below meth c 2 base D (QB base D (PostM ct B G M mo (oPush σ)) noX below ([.ref mo] : List Value).toArray s 0 0) M1 0 0 29 [(0, .ref mo), (1, .int (nI t))] [] := by
      intro d
      induction d with
      | zero =>
        intro t h1 h2 M1 hH
        have htt : t = 8 := by omega
        subst htt
        refine V_iload_n C dX4_push_29 (by rfl) ?_
        refine V_bipush C (nI 8) dX4_push_30 (by decide) ?_
        refine V_icmp_ge C 61 dX4_push_32 (by decide) (fun h_32 => ?_) (fun h_32 => absurd h_32 (fun h => h (Int32.le_refl _)))
        refine V_aload_n C dX4_push_61 (by rfl) ?_
        refine V_dup C dX4_push_62 rfl ?_
        refine V_get C (ci := 4) hH.1.1 rfl wu_X4 19 (by decide) fl_X4_83 rfl (by rfl) dX4_push_63 ?_
        refine V_iconst C (1) dX4_push_66 (by decide) ?_
        refine V_iadd C dX4_push_67 ?_
        refine V_top (y := nI (gSt σ + 1)) (nI_1 _) ?_
        refine Y_put C hH (sf (sw σ 5 (va_cpy (σ.2 2) (σ.2 5) 0 (8 * gSt σ) 8)) 13 (sk (gSt σ + 1))) (0) 19 (by decide) fl_X4_83 rfl rfl (by rfl) (by rfl) (by rfl) os_13 dX4_push_68 (fun M1 hH => ?_)
        refine V_aload_n C dX4_push_71 (by rfl) ?_
        refine V_callV C hx (As := []) (m_ownStates l hl base D ct sa hH.1 i5 (fun h => Nat.le_succ_of_le (r3 (gSv σ - 1) (Nat.sub_lt h Nat.one_pos)))) w_X4_99 hH.1.1 rfl rfl (by decide) (Nat.le_of_ble_eq_true rfl) ⟨by decide, by decide⟩ dX4_push_72 (by decide) (by decide) (fun _ _ h => h) (fun v9 M9 hv9 => ?_)
        obtain ⟨rfl, rfl⟩ := hv9
        refine VV.eqv (st' := [.int (nI (ownS (sf (sw σ 5 (va_cpy (σ.2 2) (σ.2 5) 0 (8 * gSt σ) 8)) 13 (sk (gSt σ + 1)))))]) rfl rfl ?_
        exact V_iret C hr (by decide) (by decide) dX4_push_75 (by rw [show oPush σ = (0, nI (ownS σ + 1), sf (sw σ 5 (va_cpy (σ.2 2) (σ.2 5) 0 (8 * gSt σ) 8)) 13 (sk (gSt σ + 1))) by rw [oPush, if_neg h30]]; exact ⟨by rw [ho9], hH⟩)
      | succ d ih =>
        intro t h1 h2 M1 hH
        rcases Nat.lt_or_ge t 8 with ht2 | ht2
        · refine V_iload_n C dX4_push_29 (by rfl) ?_
          refine V_bipush C (nI 8) dX4_push_30 (by decide) ?_
          refine V_icmp_ge C 61 dX4_push_32 (by decide) (fun h_32 => absurd h_32 (fun h => absurd ((nI_leI (by omega) (by omega)).mp h) (by omega))) (fun h_32 => ?_)
          refine V_aload_n C dX4_push_35 (by rfl) ?_
          refine V_get C (ci := 4) hH.1.1 rfl wu_X4 20 (by decide) fl_X4_47 rfl (by rfl) dX4_push_36 ?_
          refine V_bipush C (nI 8) dX4_push_39 (by decide) ?_
          refine V_aload_n C dX4_push_41 (by rfl) ?_
          refine V_get C (ci := 4) hH.1.1 rfl wu_X4 19 (by decide) fl_X4_83 rfl (by rfl) dX4_push_42 ?_
          refine V_imul C dX4_push_45 ?_
          refine V_iload_n C dX4_push_46 (by rfl) ?_
          refine V_iadd C dX4_push_47 ?_
          refine V_top (show nI 8 * nI (gSt σ) + nI t = nI (8 * gSt σ + t) by rw [pk_mul, nI_add]) ?_
          refine V_aload_n C dX4_push_48 (by rfl) ?_
          refine V_get C (ci := 4) hH.1.1 rfl wu_X4 7 (by decide) fl_X4_23 rfl (by rfl) dX4_push_49 ?_
          refine V_iload_n C dX4_push_52 (by rfl) ?_
          refine Y_ild C hH rfl (show t < 10 by omega) (by decide) dX4_push_53 ?_
          refine Y_ist C hH (sw σ 5 (va_cpy (σ.2 2) (σ.2 5) 0 (8 * gSt σ) (t + 1))) rfl (by omega) (by decide) rfl (fun i _ => cpy_s (show σ.2 2 t = σ.2 2 (0 + t) by rw [Nat.zero_add]) i) (fun q h => (ho_20 q h).trans (ho_20 q h).symm) (fun _ => rfl) dX4_push_54 (fun M1 hH => ?_)
          refine V_inc1 C dX4_push_55 (by rfl) (by decide) ?_
          refine V_goto C 29 dX4_push_58 (by decide) ?_
          refine VV.loc [(0, .ref mo), (1, .int (nI (t + 1)))] ⟨rfl, (by rw [← nI_1]; rfl), trivial⟩ ?_
          exact ih (t + 1) (by omega) (by omega) M1 hH
        · exact ih t (by omega) h2 M1 hH
    refine V_iconst C (0) dX4_push_14 (by decide) ?_
    refine Y_put C hH (σ) (0) 0 (by decide) fl_X4_50 rfl rfl (by rfl) (by rfl) (by rfl) rfl dX4_push_15 (fun M1 hH => ?_)
    refine V_aload_n C dX4_push_18 (by rfl) ?_
    refine V_get C (ci := 4) hH.1.1 rfl wu_X4 0 (by decide) fl_X4_50 rfl (by rfl) dX4_push_19 ?_
    refine V_if_le C 27 dX4_push_22 (by decide) (fun h_22 => ?_) (fun h_22 => absurd h_22 (fun h => h (Int32.le_refl _)))
    refine V_iconst C (0) dX4_push_27 (by decide) ?_
    refine V_istore_n C dX4_push_28 (by decide) ?_
    refine VV.loc [(0, .ref mo), (1, .int (nI 0))] ⟨rfl, rfl, trivial⟩ ?_
    exact loop 8 0 (by omega) (by omega) M1 (hH.eq (show σ = sw σ 5 (va_cpy (σ.2 2) (σ.2 5) 0 (8 * gSt σ) 0) by rw [cpy_0]; exact (sw_id σ 5).symm))
  · have h30 : gSt σ = 30 := (nI_eq (by omega) (by decide)).mp h_7
    refine V_iconst C (nI 1) dX4_push_10 (by decide) ?_
    refine V_goto C 15 dX4_push_11 (by decide) ?_
    refine VV.loc [(0, .ref mo)] ⟨rfl, trivial⟩ ?_
    exact tlE 1 (by decide) (by decide) (by rw [oPush, if_pos h30])
set_option maxHeartbeats 4000000 in
set_option maxRecDepth 100000 in
theorem m_pop (l : Launch) (hl : l.stackTraces = false) (base : Nat) (D : va_G) (ct : Nat → ClassId) (sa : Nat → Nat) {B G : Nat → Nat} {σ : Sg} {th : Int32} {M : Mem} {mo K : Nat} (hR : RepM ct B G σ th M mo) (hI : Inv K σ) (hB : K < 600)  :
    CT l yX4_pop (.code yX4_pop cX4_pop 2 (some .int) :: WL) (rmK 2 0 0) base D ct sa M [.ref mo] (PostM ct B G M mo (0, oPop σ)) noX := by
  refine CT.of hl (by decide) (Nat.le_of_ble_eq_true rfl) ?_
  intro p e s m below meth c C hr hx
  have hH : HM ct B G M σ th M mo := hR.hold
  obtain ⟨⟨i1, i2, i3, i4, i5, i6, i7, i8⟩, ⟨t1, t2, t3, t4⟩, ⟨s1, s2, s3, s4⟩, ⟨r1, r2, r3, r4, r5, r6⟩, ⟨v1, v2⟩, v3⟩ := id hI
  have hown : ownS σ < 2 ^ 31 := by unfold ownS; split <;> omega
  refine V_aload_n C dX4_pop_0 (by rfl) ?_
  refine V_iconst C (0) dX4_pop_1 (by decide) ?_
  refine Y_put C hH (σ) (0) 0 (by decide) fl_X4_50 rfl rfl (by rfl) (by rfl) (by rfl) rfl dX4_pop_2 (fun M1 hH => ?_)
  refine V_aload_n C dX4_pop_5 (by rfl) ?_
  refine V_callV C hx (As := []) (m_ownStates l hl base D ct sa hH.1 i5 (fun h => r3 (gSv σ - 1) (by omega))) w_X4_99 hH.1.1 rfl rfl (by decide) (Nat.le_of_ble_eq_true rfl) ⟨by decide, by decide⟩ dX4_pop_6 (by decide) (by decide) (fun _ _ h => h) (fun v9 M9 hv9 => ?_)
  obtain ⟨rfl, rfl⟩ := hv9
  refine VV.eqv (st' := [.int (nI (ownS σ))]) rfl rfl ?_
  refine V_if_ne C 14 dX4_pop_9 (by decide) (fun h_9 => ?_) (fun h_9 => ?_)
  · have h0 : ¬ ownS σ = 0 := fun h => h_9 (by rw [h]; exact nI_0)
    have hst : 0 < gSt σ ∧ (0 < gSv σ → gSb σ (gSv σ - 1) < gSt σ) := by
      unfold ownS at h0
      split at h0 <;> exact ⟨by omega, fun _ => by omega⟩
    have hle9 : 0 < gSv σ → gSb σ (gSv σ - 1) ≤ gSt σ - 1 := fun h => by have := hst.2 h; omega
    have ho9 : ownS (sw (sf σ 13 (sk (gSt σ - 1))) 2 (va_cpy (σ.2 5) (σ.2 2) (8 * (gSt σ - 1)) 0 8)) = ownS σ - 1 := by
      show (if gSv σ = 0 then gSt σ - 1 else gSt σ - 1 - gSb σ (gSv σ - 1)) = (if gSv σ = 0 then gSt σ else gSt σ - gSb σ (gSv σ - 1)) - 1
      split <;> omega
    have loop : ∀ d t : Nat, 8 ≤ t + d → t ≤ 8 → ∀ M1 : Mem, HM ct B G M (sw (sf σ 13 (sk (gSt σ - 1))) 2 (va_cpy (σ.2 5) (σ.2 2) (8 * (gSt σ - 1)) 0 t)) 0 M1 mo → VV p l e (rmK 2 0 0) s m ([.ref mo] : List Value).toArray below meth c 2 base D (QB base D (PostM ct B G M mo (0, oPop σ)) noX below ([.ref mo] : List Value).toArray s 0 0) M1 0 0 26 [(0, .ref mo), (1, .int (nI t))] [] := by
      intro d
      induction d with
      | zero =>
        intro t h1 h2 M1 hH
        have htt : t = 8 := by omega
        subst htt
        refine V_iload_n C dX4_pop_26 (by rfl) ?_
        refine V_bipush C (nI 8) dX4_pop_27 (by decide) ?_
        refine V_icmp_ge C 58 dX4_pop_29 (by decide) (fun h_29 => ?_) (fun h_29 => absurd h_29 (fun h => h (Int32.le_refl _)))
        refine V_aload_n C dX4_pop_58 (by rfl) ?_
        refine V_callV C hx (As := []) (m_ownStates l hl base D ct sa hH.1 i5 hle9) w_X4_99 hH.1.1 rfl rfl (by decide) (Nat.le_of_ble_eq_true rfl) ⟨by decide, by decide⟩ dX4_pop_59 (by decide) (by decide) (fun _ _ h => h) (fun v9 M9 hv9 => ?_)
        obtain ⟨rfl, rfl⟩ := hv9
        refine VV.eqv (st' := [.int (nI (ownS (sw (sf σ 13 (sk (gSt σ - 1))) 2 (va_cpy (σ.2 5) (σ.2 2) (8 * (gSt σ - 1)) 0 8))))]) rfl rfl ?_
        exact V_iret C hr (by decide) (by decide) dX4_pop_62 (by rw [show oPop σ = (nI (ownS σ - 1), sw (sf σ 13 (sk (gSt σ - 1))) 2 (va_cpy (σ.2 5) (σ.2 2) (8 * (gSt σ - 1)) 0 8)) by rw [oPop, if_neg h0]]; exact ⟨by rw [ho9], hH⟩)
      | succ d ih =>
        intro t h1 h2 M1 hH
        rcases Nat.lt_or_ge t 8 with ht2 | ht2
        · refine V_iload_n C dX4_pop_26 (by rfl) ?_
          refine V_bipush C (nI 8) dX4_pop_27 (by decide) ?_
          refine V_icmp_ge C 58 dX4_pop_29 (by decide) (fun h_29 => absurd h_29 (fun h => absurd ((nI_leI (by omega) (by omega)).mp h) (by omega))) (fun h_29 => ?_)
          refine V_aload_n C dX4_pop_32 (by rfl) ?_
          refine V_get C (ci := 4) hH.1.1 rfl wu_X4 7 (by decide) fl_X4_23 rfl (by rfl) dX4_pop_33 ?_
          refine V_iload_n C dX4_pop_36 (by rfl) ?_
          refine V_aload_n C dX4_pop_37 (by rfl) ?_
          refine V_get C (ci := 4) hH.1.1 rfl wu_X4 20 (by decide) fl_X4_47 rfl (by rfl) dX4_pop_38 ?_
          refine V_bipush C (nI 8) dX4_pop_41 (by decide) ?_
          refine V_aload_n C dX4_pop_43 (by rfl) ?_
          refine V_get C (ci := 4) hH.1.1 rfl wu_X4 19 (by decide) fl_X4_83 rfl (by rfl) dX4_pop_44 ?_
          refine V_imul C dX4_pop_47 ?_
          refine V_iload_n C dX4_pop_48 (by rfl) ?_
          refine V_iadd C dX4_pop_49 ?_
          refine V_top (show nI 8 * nI (gSt σ - 1) + nI t = nI (8 * (gSt σ - 1) + t) by rw [pk_mul, nI_add]) ?_
          refine Y_ild C hH rfl (show 8 * (gSt σ - 1) + t < 240 by omega) (by decide) dX4_pop_50 ?_
          refine Y_ist C hH (sw (sf σ 13 (sk (gSt σ - 1))) 2 (va_cpy (σ.2 5) (σ.2 2) (8 * (gSt σ - 1)) 0 (t + 1))) rfl (show t < 10 by omega) (by decide) rfl (fun i _ => by have h := cpy_s (g := σ.2 2) (dp := 0) (show σ.2 5 (8 * (gSt σ - 1) + t) = σ.2 5 (8 * (gSt σ - 1) + t) from rfl) i; rw [Nat.zero_add] at h; exact h) (fun q h => (ho_7 q h).trans (ho_7 q h).symm) (fun _ => rfl) dX4_pop_51 (fun M1 hH => ?_)
          refine V_inc1 C dX4_pop_52 (by rfl) (by decide) ?_
          refine V_goto C 26 dX4_pop_55 (by decide) ?_
          refine VV.loc [(0, .ref mo), (1, .int (nI (t + 1)))] ⟨rfl, (by rw [← nI_1]; rfl), trivial⟩ ?_
          exact ih (t + 1) (by omega) (by omega) M1 hH
        · exact ih t (by omega) h2 M1 hH
    refine V_aload_n C dX4_pop_14 (by rfl) ?_
    refine V_dup C dX4_pop_15 rfl ?_
    refine V_get C (ci := 4) hH.1.1 rfl wu_X4 19 (by decide) fl_X4_83 rfl (by rfl) dX4_pop_16 ?_
    refine V_iconst C (1) dX4_pop_19 (by decide) ?_
    refine V_isub C dX4_pop_20 ?_
    refine V_top (show nI (gSt σ) - nI 1 = nI (gSt σ - 1) from pk_sub hst.1) ?_
    refine Y_put C hH (sf σ 13 (sk (gSt σ - 1))) (0) 19 (by decide) fl_X4_83 rfl rfl (by rfl) (by rfl) (by rfl) os_13 dX4_pop_21 (fun M1 hH => ?_)
    refine V_iconst C (0) dX4_pop_24 (by decide) ?_
    refine V_istore_n C dX4_pop_25 (by decide) ?_
    refine VV.loc [(0, .ref mo), (1, .int (nI 0))] ⟨rfl, rfl, trivial⟩ ?_
    exact loop 8 0 (by omega) (by omega) M1 (hH.eq (show sf σ 13 (sk (gSt σ - 1)) = sw (sf σ 13 (sk (gSt σ - 1))) 2 (va_cpy (σ.2 5) (σ.2 2) (8 * (gSt σ - 1)) 0 0) by rw [cpy_0]; exact (sw_id (sf σ 13 (sk (gSt σ - 1))) 2).symm))
  · have h0 : ownS σ = 0 := Nat.eq_zero_of_not_pos (fun h => nI_ne0 h hown h_9)
    refine V_iconst C (-1) dX4_pop_12 (by decide) ?_
    exact V_iret C hr (by decide) (by decide) dX4_pop_13 (by rw [show oPop σ = (-1, σ) by rw [oPop, if_pos h0]]; exact ⟨rfl, hH⟩)
end
section
/-! the reference: isLive, restore -/
def lvT (σ : Sg) (n : Int32) (t : Nat) : Bool := (List.range t).any (fun k => decide (nI (gNum σ k) = n))
theorem lvT_s {σ : Sg} {n : Int32} {t : Nat} : lvT σ n (t + 1) = (lvT σ n t || decide (nI (gNum σ t) = n)) := by
  unfold lvT
  rw [List.range_succ, List.any_append]
  simp
theorem gnE_le {σ : Sg} {ob : Nat → Nat} {f : Nat} : ∀ p, gnE σ ob f p ≤ p := by
  intro p
  induction p with
  | zero => exact Nat.le_refl _
  | succ p ih => simp only [gnE]; split <;> omega
theorem goneC_le {σ : Sg} {ob : Nat → Nat} (hO : RepO ob σ) {f t : Nat} (h : f + t ≤ gMade σ) : goneC σ f t ≤ gAlive σ := by
  obtain ⟨p, h1, -, -, h4⟩ := cnt_enum hO f (f + t) h
  rw [cntO_gone] at h4
  have := gnE_le (σ := σ) (ob := ob) (f := f) p
  omega
theorem HM.cong {ct : Nat → ClassId} {B G : Nat → Nat} {σ σ' : Sg} {th : Int32} {M0 M : Mem} {mo : Nat} (h : HM ct B G M0 σ th M mo) (ha : arM σ' = arM σ) (hm : moL B σ' th = moL B σ th) : HM ct B G M0 σ' th M mo := by
  obtain ⟨⟨h1, h2, h4⟩, h5⟩ := h
  refine ⟨⟨by rw [hm]; exact h1, h2, ?_⟩, h5⟩
  rw [ha]; exact h4
/-- who is there when the objects f .. u - 1 have been seen -/
def thF (σ : Sg) (f u : Nat) : Nat → Nat := fun o => if f ≤ o ∧ o < u ∧ gGlob σ o = 0 then 0 else gThere σ o
theorem thF_0 (σ : Sg) (f : Nat) : thF σ f f = σ.1 2 := by
  funext o; unfold thF; rw [if_neg (by omega)]
theorem thF_at (σ : Sg) (f u : Nat) : thF σ f u u = gThere σ u := by unfold thF; rw [if_neg (by omega)]
theorem thF_s {σ : Sg} {f u : Nat} (h : gThere σ u = 0 ∨ ¬ gGlob σ u = 0) : thF σ f (u + 1) = thF σ f u := by
  funext o; unfold thF
  by_cases e : o = u
  · subst e
    rw [if_neg (show ¬ (f ≤ o ∧ o < o ∧ gGlob σ o = 0) by omega)]
    rcases h with h | h
    · rw [h]; split <;> rfl
    · rw [if_neg (fun g => h g.2.2)]
  · by_cases g : f ≤ o ∧ o < u ∧ gGlob σ o = 0
    · rw [if_pos g, if_pos ⟨g.1, by omega, g.2.2⟩]
    · rw [if_neg g, if_neg (fun q => g ⟨q.1, by omega, q.2.2⟩)]
theorem thF_p {σ : Sg} {f u : Nat} (hf : f ≤ u) (h : gGlob σ u = 0) (i : Nat) : va_up (nF (thF σ f u)) u 0 i = nF (thF σ f (u + 1)) i := by
  unfold nF
  by_cases e : i = u
  · subst e
    rw [va_up_self]
    unfold thF
    rw [if_pos ⟨hf, by omega, h⟩]
    exact nI_0.symm
  · rw [va_up_ne _ _ e]
    unfold thF
    by_cases g : f ≤ i ∧ i < u ∧ gGlob σ i = 0
    · rw [if_pos g, if_pos ⟨g.1, by omega, g.2.2⟩]
    · rw [if_neg g, if_neg (fun q => g ⟨q.1, by omega, q.2.2⟩)]
set_option maxHeartbeats 4000000 in
set_option maxRecDepth 100000 in
theorem m_isLive (l : Launch) (hl : l.stackTraces = false) (base : Nat) (D : va_G) (ct : Nat → ClassId) (sa : Nat → Nat) {B G : Nat → Nat} {σ : Sg} {th : Int32} {M : Mem} {mo K : Nat} (hR : RepM ct B G σ th M mo) (hI : Inv K σ) (hB : K < 600) (n : Int32) :
    CT l yX4_isLive (.code yX4_isLive cX4_isLive 4 (some .boolean) :: WL) (rmK 1 0 0) base D ct sa M [.ref mo, .int n] (fun v9 M' => v9 = some (.int (b2i (isLv σ n))) ∧ M' = M) noX := by
  refine CT.of hl (by decide) (Nat.le_of_ble_eq_true rfl) ?_
  intro p e s m below meth c C hr hx
  have hH : HM ct B G M σ th M mo := hR.hold
  obtain ⟨⟨i1, i2, i3, i4, i5, i6, i7, i8⟩, ⟨t1, t2, t3, t4⟩, ⟨s1, s2, s3, s4⟩, ⟨r1, r2, r3, r4, r5, r6⟩, ⟨v1, v2⟩, v3⟩ := id hI
  have loop : ∀ d t : Nat, gSv σ ≤ t + d → t ≤ gSv σ → VV p l e (rmK 1 0 0) s m ([.ref mo, .int n] : List Value).toArray below meth c 4 base D (QB base D (fun v9 M' => v9 = some (.int (b2i (isLv σ n))) ∧ M' = M) noX below ([.ref mo, .int n] : List Value).toArray s 0 0) M 0 0 4 [(0, .ref mo), (1, .int n), (2, .int (b2i (lvT σ n t))), (3, .int (nI t))] [] := by
    intro d
    induction d with
    | zero =>
      intro t h1 h2
      have htt : t = gSv σ := by omega
      refine V_iload_n C dX4_isLive_4 (by rfl) ?_
      refine V_aload_n C dX4_isLive_5 (by rfl) ?_
      refine V_get C (ci := 4) hH.1.1 rfl wu_X4 8 (by decide) fl_X4_64 rfl (by rfl) dX4_isLive_6 ?_
      refine V_icmp_ge C 38 dX4_isLive_9 (by decide) (fun h_9 => ?_) (fun h_9 => absurd h_9 (fun h => h ((nI_leI (by omega) (by omega)).mpr (by omega))))
      refine V_iload_n C dX4_isLive_38 (by rfl) ?_
      exact V_zret C hr (by cases lvT σ n t <;> rfl) (by decide) (by decide) dX4_isLive_39 ⟨by rw [htt]; rfl, rfl⟩
    | succ d ih =>
      intro t h1 h2
      rcases Nat.lt_or_ge t (gSv σ) with ht2 | ht2
      · refine V_iload_n C dX4_isLive_4 (by rfl) ?_
        refine V_aload_n C dX4_isLive_5 (by rfl) ?_
        refine V_get C (ci := 4) hH.1.1 rfl wu_X4 8 (by decide) fl_X4_64 rfl (by rfl) dX4_isLive_6 ?_
        refine V_icmp_ge C 38 dX4_isLive_9 (by decide) (fun h_9 => absurd h_9 (fun h => absurd ((nI_leI (by omega) (by omega)).mp h) (by omega))) (fun h_9 => ?_)
        refine V_iload_n C dX4_isLive_12 (by rfl) ?_
        refine V_if_ne C 26 dX4_isLive_13 (by decide) (fun h_13 => ?_) (fun h_13 => ?_)
        · have e9 : lvT σ n (t + 1) = true := by rw [lvT_s, b2i_1 h_13]; rfl
          refine V_iconst C 1 dX4_isLive_26 (by decide) ?_
          refine V_goto C 31 dX4_isLive_27 (by decide) ?_
          refine V_istore_n C dX4_isLive_31 (by decide) ?_
          refine V_inc1 C dX4_isLive_32 (by rfl) (by decide) ?_
          refine V_goto C 4 dX4_isLive_35 (by decide) ?_
          refine VV.loc [(0, .ref mo), (1, .int n), (2, .int (b2i (lvT σ n (t + 1)))), (3, .int (nI (t + 1)))] ⟨rfl, rfl, (by rw [e9]; rfl), (by rw [← nI_1]; rfl), trivial⟩ ?_
          exact ih (t + 1) (by omega) (by omega)
        · refine V_aload_n C dX4_isLive_16 (by rfl) ?_
          refine V_get C (ci := 4) hH.1.1 rfl wu_X4 11 (by decide) fl_X4_26 rfl (by rfl) dX4_isLive_17 ?_
          refine V_iload_n C dX4_isLive_20 (by rfl) ?_
          refine Y_ild C hH rfl (by omega) (by decide) dX4_isLive_21 ?_
          refine V_iload_n C dX4_isLive_22 (by rfl) ?_
          refine V_icmp_ne C 30 dX4_isLive_23 (by decide) (fun h_23 => ?_) (fun h_23 => ?_)
          · have e9 : lvT σ n (t + 1) = false := by rw [lvT_s, b2i_0 h_13, decide_eq_false (show ¬ nI (gNum σ t) = n from h_23)]; rfl
            refine V_iconst C 0 dX4_isLive_30 (by decide) ?_
            refine V_istore_n C dX4_isLive_31 (by decide) ?_
            refine V_inc1 C dX4_isLive_32 (by rfl) (by decide) ?_
            refine V_goto C 4 dX4_isLive_35 (by decide) ?_
            refine VV.loc [(0, .ref mo), (1, .int n), (2, .int (b2i (lvT σ n (t + 1)))), (3, .int (nI (t + 1)))] ⟨rfl, rfl, (by rw [e9]; rfl), (by rw [← nI_1]; rfl), trivial⟩ ?_
            exact ih (t + 1) (by omega) (by omega)
          · have e9 : lvT σ n (t + 1) = true := by rw [lvT_s, decide_eq_true (show nI (gNum σ t) = n from h_23), Bool.or_true]
            refine V_iconst C 1 dX4_isLive_26 (by decide) ?_
            refine V_goto C 31 dX4_isLive_27 (by decide) ?_
            refine V_istore_n C dX4_isLive_31 (by decide) ?_
            refine V_inc1 C dX4_isLive_32 (by rfl) (by decide) ?_
            refine V_goto C 4 dX4_isLive_35 (by decide) ?_
            refine VV.loc [(0, .ref mo), (1, .int n), (2, .int (b2i (lvT σ n (t + 1)))), (3, .int (nI (t + 1)))] ⟨rfl, rfl, (by rw [e9]; rfl), (by rw [← nI_1]; rfl), trivial⟩ ?_
            exact ih (t + 1) (by omega) (by omega)
      · exact ih t (by omega) h2
  refine V_iconst C (0) dX4_isLive_0 (by decide) ?_
  refine V_istore_n C dX4_isLive_1 (by decide) ?_
  refine V_iconst C (0) dX4_isLive_2 (by decide) ?_
  refine V_istore_n C dX4_isLive_3 (by decide) ?_
  refine VV.loc [(0, .ref mo), (1, .int n), (2, .int (b2i (lvT σ n 0))), (3, .int (nI 0))] ⟨rfl, rfl, rfl, rfl, trivial⟩ ?_
  exact loop (gSv σ) 0 (by omega) (Nat.zero_le _)
set_option maxHeartbeats 4000000 in
set_option maxRecDepth 100000 in
theorem m_restore (l : Launch) (hl : l.stackTraces = false) (base : Nat) (D : va_G) (ct : Nat → ClassId) (sa : Nat → Nat) {B G : Nat → Nat} {σ : Sg} {th : Int32} {M : Mem} {mo K : Nat} (hR : RepM ct B G σ th M mo) (hI : Inv K σ) (hB : K < 600) {ob : Nat → Nat} (hO : RepO ob σ) (n : Int32) :
    CT l yX4_restore (.code yX4_restore cX4_restore 4 (some .int) :: WL) (rmK 2 0 0) base D ct sa M [.ref mo, .int n] (PostM ct B G M mo (0, oRestore σ n)) noX := by
  refine CT.of hl (by decide) (Nat.le_of_ble_eq_true rfl) ?_
  intro p e s m below meth c C hr hx
  have hH : HM ct B G M σ th M mo := hR.hold
  obtain ⟨⟨i1, i2, i3, i4, i5, i6, i7, i8⟩, ⟨t1, t2, t3, t4⟩, ⟨s1, s2, s3, s4⟩, ⟨r1, r2, r3, r4, r5, r6⟩, ⟨v1, v2⟩, v3⟩ := id hI
  refine V_aload_n C dX4_restore_0 (by rfl) ?_
  refine V_iconst C (0) dX4_restore_1 (by decide) ?_
  refine Y_put C hH (σ) (0) 0 (by decide) fl_X4_50 rfl rfl (by rfl) (by rfl) (by rfl) rfl dX4_restore_2 (fun M1 hH => ?_)
  refine V_iload_n C dX4_restore_5 (by rfl) ?_
  refine V_iconst C (1) dX4_restore_6 (by decide) ?_
  refine V_icmp_lt C 18 dX4_restore_7 (by decide) (fun h_7 => ?_) (fun h_7 => ?_)
  · refine V_iconst C (-1) dX4_restore_18 (by decide) ?_
    exact V_iret C hr (by decide) (by decide) dX4_restore_19 (by rw [show oRestore σ n = (-1, σ) by unfold oRestore; rw [if_pos (Or.inl h_7)]]; exact ⟨rfl, hH⟩)
  · refine V_iload_n C dX4_restore_10 (by rfl) ?_
    refine V_aload_n C dX4_restore_11 (by rfl) ?_
    refine V_get C (ci := 4) hH.1.1 rfl wu_X4 9 (by decide) fl_X4_80 rfl (by rfl) dX4_restore_12 ?_
    refine V_icmp_le C 20 dX4_restore_15 (by decide) (fun h_15 => ?_) (fun h_15 => ?_)
    · have hrg : ¬ (n < 1 ∨ nI (gLast σ) < n) := by
        rintro (h | h)
        · exact h_7 h
        · exact absurd h_15 (Int32.not_le.mpr h)
      refine V_aload_n C dX4_restore_20 (by rfl) ?_
      refine V_iload_n C dX4_restore_21 (by rfl) ?_
      refine V_callV C hx (As := [.int n]) (m_isLive l hl base D ct sa hH.1 hI hB n) w_X4_89 hH.1.1 rfl rfl (by decide) (Nat.le_of_ble_eq_true rfl) ⟨by decide, by decide⟩ dX4_restore_22 (by decide) (by decide) (fun _ _ h => h) (fun v9 M9 hv9 => ?_)
      obtain ⟨rfl, rfl⟩ := hv9
      refine VV.eqv (st' := [.int (b2i (isLv σ n))]) rfl rfl ?_
      refine V_if_ne C 31 dX4_restore_25 (by decide) (fun h_25 => ?_) (fun h_25 => ?_)
      · have hlv := b2i_1 h_25
        have h0 : 0 < gSv σ := by
          obtain ⟨k, hk, -⟩ := List.any_eq_true.mp hlv
          have := List.mem_range.mp hk
          omega
        
        refine V_aload_n C dX4_restore_31 (by rfl) ?_
        refine V_get C (ci := 4) hH.1.1 rfl wu_X4 11 (by decide) fl_X4_26 rfl (by rfl) dX4_restore_32 ?_
        refine V_aload_n C dX4_restore_35 (by rfl) ?_
        refine V_get C (ci := 4) hH.1.1 rfl wu_X4 8 (by decide) fl_X4_64 rfl (by rfl) dX4_restore_36 ?_
        refine V_iconst C (1) dX4_restore_39 (by decide) ?_
        refine V_isub C dX4_restore_40 ?_
        refine V_top (show nI (gSv σ) - nI 1 = nI (gSv σ - 1) from pk_sub h0) ?_
        refine Y_ild C hH rfl (by omega) (by decide) dX4_restore_41 ?_
        refine V_iload_n C dX4_restore_42 (by rfl) ?_
        refine V_icmp_eq C 49 dX4_restore_43 (by decide) (fun h_43 => ?_) (fun h_43 => ?_)
        · have hlast : nI (gNum σ (gSv σ - 1)) = n := h_43
          refine V_aload_n C dX4_restore_49 (by rfl) ?_
          refine V_get C (ci := 4) hH.1.1 rfl wu_X4 8 (by decide) fl_X4_64 rfl (by rfl) dX4_restore_50 ?_
          refine V_iconst C (1) dX4_restore_53 (by decide) ?_
          refine V_isub C dX4_restore_54 ?_
          refine V_top (show nI (gSv σ) - nI 1 = nI (gSv σ - 1) from pk_sub h0) ?_
          refine V_istore_n C dX4_restore_55 (by decide) ?_
          refine V_aload_n C dX4_restore_56 (by rfl) ?_
          refine V_aload_n C dX4_restore_57 (by rfl) ?_
          refine V_get C (ci := 4) hH.1.1 rfl wu_X4 7 (by decide) fl_X4_23 rfl (by rfl) dX4_restore_58 ?_
          refine V_bipush C (nI 8) dX4_restore_61 (by decide) ?_
          refine Y_ild C hH rfl (by decide) (by decide) dX4_restore_63 ?_
          refine V_aload_n C dX4_restore_64 (by rfl) ?_
          refine V_get C (ci := 4) hH.1.1 rfl wu_X4 12 (by decide) fl_X4_29 rfl (by rfl) dX4_restore_65 ?_
          refine V_iload_n C dX4_restore_68 (by rfl) ?_
          refine Y_ild C hH rfl (show gSv σ - 1 < 16 by omega) (by decide) dX4_restore_69 ?_
          refine V_callV C hx (As := [.int (gPa σ 8), .int (nI (gFst σ (gSv σ - 1)))]) (m_isNewer l hl base D ct sa hH.1 hI hB (v := gPa σ 8) v1.1 (f := gFst σ (gSv σ - 1)) (by have := s3 (gSv σ - 1) (by omega); omega)) w_X4_92 hH.1.1 rfl rfl (by decide) (Nat.le_of_ble_eq_true rfl) ⟨by decide, by decide⟩ dX4_restore_70 (by decide) (by decide) (fun _ _ h => h) (fun v8 M8 hv8 => ?_)
          obtain ⟨rfl, rfl⟩ := hv8
          refine VV.eqv (st' := [.int (b2i (isNw σ (gPa σ 8) (gFst σ (gSv σ - 1))))]) rfl rfl ?_
          refine V_if_ne C 96 dX4_restore_73 (by decide) (fun h_73 => ?_) (fun h_73 => ?_)
          · have hnw : isNw σ (gPa σ 8) (gFst σ (gSv σ - 1)) = true ∨ isNw σ (gPa σ 9) (gFst σ (gSv σ - 1)) = true := Or.inl (b2i_1 h_73)
            refine V_bipush C (-4) dX4_restore_96 (by decide) ?_
            exact V_iret C hr (by decide) (by decide) dX4_restore_98 (by rw [show oRestore σ n = (-4, σ) by unfold oRestore; rw [if_neg hrg, if_neg (by rw [hlv]; simp), if_neg (fun h => h hlast), if_pos hnw]]; exact ⟨rfl, hH⟩)
          · refine V_aload_n C dX4_restore_76 (by rfl) ?_
            refine V_aload_n C dX4_restore_77 (by rfl) ?_
            refine V_get C (ci := 4) hH.1.1 rfl wu_X4 7 (by decide) fl_X4_23 rfl (by rfl) dX4_restore_78 ?_
            refine V_bipush C (nI 9) dX4_restore_81 (by decide) ?_
            refine Y_ild C hH rfl (by decide) (by decide) dX4_restore_83 ?_
            refine V_aload_n C dX4_restore_84 (by rfl) ?_
            refine V_get C (ci := 4) hH.1.1 rfl wu_X4 12 (by decide) fl_X4_29 rfl (by rfl) dX4_restore_85 ?_
            refine V_iload_n C dX4_restore_88 (by rfl) ?_
            refine Y_ild C hH rfl (show gSv σ - 1 < 16 by omega) (by decide) dX4_restore_89 ?_
            refine V_callV C hx (As := [.int (gPa σ 9), .int (nI (gFst σ (gSv σ - 1)))]) (m_isNewer l hl base D ct sa hH.1 hI hB (v := gPa σ 9) v1.2 (f := gFst σ (gSv σ - 1)) (by have := s3 (gSv σ - 1) (by omega); omega)) w_X4_92 hH.1.1 rfl rfl (by decide) (Nat.le_of_ble_eq_true rfl) ⟨by decide, by decide⟩ dX4_restore_90 (by decide) (by decide) (fun _ _ h => h) (fun v7 M7 hv7 => ?_)
            obtain ⟨rfl, rfl⟩ := hv7
            refine VV.eqv (st' := [.int (b2i (isNw σ (gPa σ 9) (gFst σ (gSv σ - 1))))]) rfl rfl ?_
            refine V_if_eq C 99 dX4_restore_93 (by decide) (fun h_93 => ?_) (fun h_93 => ?_)
            · have hnw : ¬ (isNw σ (gPa σ 8) (gFst σ (gSv σ - 1)) = true ∨ isNw σ (gPa σ 9) (gFst σ (gSv σ - 1)) = true) := by
                rw [b2i_0 h_73, b2i_0 h_93]; simp
              have hpl : ∀ t, gRb σ (gSv σ - 1) ≤ t → t < gRows σ → gPl σ t < 4800 := by
                intro t h1 h2
                have h3 := (v3 (gSv σ - 1) t (by omega) (by unfold rbx; rw [if_pos (by omega)]; exact h1) (by unfold rbx; rw [if_neg (by omega)]; exact h2)).1
                have h4 := s3 (gSv σ - 1) (by omega)
                omega
              have hok : oRestore σ n = (1, sf (sw (sf (sf (sf (sf (sw σ 0 (undo σ (gRb σ (gSv σ - 1)) (gRows σ - gRb σ (gSv σ - 1)))) 11 (sk (gRb σ (gSv σ - 1)))) 13 (sk (gSb σ (gSv σ - 1)))) 2 (thF σ (gFst σ (gSv σ - 1)) (gMade σ))) 1 (sk (gAlive σ - goneC σ (gFst σ (gSv σ - 1)) ((gMade σ) - gFst σ (gSv σ - 1))))) 2 (va_cpy (σ.2 3) (σ.2 2) (10 * (gSv σ - 1)) 0 8)) 4 (sk (gSv σ - 1))) := by
                unfold oRestore
                rw [if_neg hrg, if_neg (by rw [hlv]; simp), if_neg (fun h => h hlast), if_neg hnw]
                rfl
              have loop3 : ∀ d u : Nat, 8 ≤ u + d → u ≤ 8 → 0 ≤ u → ∀ M1 : Mem, HM ct B G M (sw (sf (sf (sf (sf (sw σ 0 (undo σ (gRb σ (gSv σ - 1)) (gRows σ - gRb σ (gSv σ - 1)))) 11 (sk (gRb σ (gSv σ - 1)))) 13 (sk (gSb σ (gSv σ - 1)))) 2 (thF σ (gFst σ (gSv σ - 1)) (gMade σ))) 1 (sk (gAlive σ - goneC σ (gFst σ (gSv σ - 1)) ((gMade σ) - gFst σ (gSv σ - 1))))) 2 (va_cpy (σ.2 3) (σ.2 2) (10 * (gSv σ - 1)) 0 u)) 0 M1 mo → VV p l e (rmK 2 0 0) s m ([.ref mo, .int n] : List Value).toArray below meth c 4 base D (QB base D (PostM ct B G M mo (0, oRestore σ n)) noX below ([.ref mo, .int n] : List Value).toArray s 0 0) M1 0 0 215 [(0, .ref mo), (1, .int n), (2, .int (nI (gSv σ - 1))), (3, .int (nI u))] [] := by
                intro d
                induction d with
                | zero =>
                  intro u h1 h2 h3 M1 hH
                  have huu : u = 8 := by omega
                  subst huu
                  refine V_iload_n C dX4_restore_215 (by rfl) ?_
                  refine V_bipush C (nI 8) dX4_restore_216 (by decide) ?_
                  refine V_icmp_ge C 244 dX4_restore_218 (by decide) (fun h_218 => ?_) (fun h_218 => absurd h_218 (fun h => h (Int32.le_refl _)))
                  refine V_aload_n C dX4_restore_244 (by rfl) ?_
                  refine V_iload_n C dX4_restore_245 (by rfl) ?_
                  refine Y_put C hH (sf (sw (sf (sf (sf (sf (sw σ 0 (undo σ (gRb σ (gSv σ - 1)) (gRows σ - gRb σ (gSv σ - 1)))) 11 (sk (gRb σ (gSv σ - 1)))) 13 (sk (gSb σ (gSv σ - 1)))) 2 (thF σ (gFst σ (gSv σ - 1)) (gMade σ))) 1 (sk (gAlive σ - goneC σ (gFst σ (gSv σ - 1)) ((gMade σ) - gFst σ (gSv σ - 1))))) 2 (va_cpy (σ.2 3) (σ.2 2) (10 * (gSv σ - 1)) 0 8)) 4 (sk (gSv σ - 1))) (0) 8 (by decide) fl_X4_64 rfl rfl (by rfl) (by rfl) (by rfl) os_4 dX4_restore_246 (fun M1 hH => ?_)
                  refine V_iconst C (1) dX4_restore_249 (by decide) ?_
                  exact V_iret C hr (by decide) (by decide) dX4_restore_250 (by rw [hok]; exact ⟨rfl, hH⟩)
                | succ d ih =>
                  intro u h1 h2 h3 M1 hH
                  rcases Nat.lt_or_ge u (8) with hu | hu
                  · refine V_iload_n C dX4_restore_215 (by rfl) ?_
                    refine V_bipush C (nI 8) dX4_restore_216 (by decide) ?_
                    refine V_icmp_ge C 244 dX4_restore_218 (by decide) (fun h_218 => absurd h_218 (fun h => absurd ((nI_leI (by omega) (by omega)).mp h) (by omega))) (fun h_218 => ?_)
                    refine V_aload_n C dX4_restore_221 (by rfl) ?_
                    refine V_get C (ci := 4) hH.1.1 rfl wu_X4 7 (by decide) fl_X4_23 rfl (by rfl) dX4_restore_222 ?_
                    refine V_iload_n C dX4_restore_225 (by rfl) ?_
                    refine V_aload_n C dX4_restore_226 (by rfl) ?_
                    refine V_get C (ci := 4) hH.1.1 rfl wu_X4 15 (by decide) fl_X4_38 rfl (by rfl) dX4_restore_227 ?_
                    refine V_bipush C (nI 10) dX4_restore_230 (by decide) ?_
                    refine V_iload_n C dX4_restore_232 (by rfl) ?_
                    refine V_imul C dX4_restore_233 ?_
                    refine V_iload_n C dX4_restore_234 (by rfl) ?_
                    refine V_iadd C dX4_restore_235 ?_
                    refine V_top (y := nI (10 * (gSv σ - 1) + u)) (by rw [pk_mul, nI_add]) ?_
                    refine Y_ild C hH rfl (by omega) (by decide) dX4_restore_236 ?_
                    refine Y_ist C hH (sw (sf (sf (sf (sf (sw σ 0 (undo σ (gRb σ (gSv σ - 1)) (gRows σ - gRb σ (gSv σ - 1)))) 11 (sk (gRb σ (gSv σ - 1)))) 13 (sk (gSb σ (gSv σ - 1)))) 2 (thF σ (gFst σ (gSv σ - 1)) (gMade σ))) 1 (sk (gAlive σ - goneC σ (gFst σ (gSv σ - 1)) ((gMade σ) - gFst σ (gSv σ - 1))))) 2 (va_cpy (σ.2 3) (σ.2 2) (10 * (gSv σ - 1)) 0 (u + 1))) rfl (show u < 10 by omega) (by decide) rfl (fun i _ => by have h := cpy_s (g := σ.2 2) (dp := 0) (show σ.2 3 (10 * (gSv σ - 1) + u) = σ.2 3 (10 * (gSv σ - 1) + u) from rfl) i; rw [Nat.zero_add] at h; exact h) (fun q h => (ho_7 q h).trans (ho_7 q h).symm) (fun _ => rfl) dX4_restore_237 (fun M1 hH => ?_)
                    refine V_inc1 C dX4_restore_238 (by rfl) (by decide) ?_
                    refine V_goto C 215 dX4_restore_241 (by decide) ?_
                    refine VV.loc [(0, .ref mo), (1, .int n), (2, .int (nI (gSv σ - 1))), (3, .int (nI (u + 1)))] ⟨rfl, rfl, rfl, (by rw [← nI_1]; rfl), trivial⟩ ?_
                    exact ih (u + 1) (by omega) (by omega) (by omega) M1 hH
                  · exact ih u (by omega) h2 h3 M1 hH
              have loop2 : ∀ d u : Nat, gMade σ ≤ u + d → u ≤ gMade σ → gFst σ (gSv σ - 1) ≤ u → ∀ M1 : Mem, HM ct B G M (sf (sf (sf (sf (sw σ 0 (undo σ (gRb σ (gSv σ - 1)) (gRows σ - gRb σ (gSv σ - 1)))) 11 (sk (gRb σ (gSv σ - 1)))) 13 (sk (gSb σ (gSv σ - 1)))) 2 (thF σ (gFst σ (gSv σ - 1)) u)) 1 (sk (gAlive σ - goneC σ (gFst σ (gSv σ - 1)) (u - gFst σ (gSv σ - 1))))) 0 M1 mo → VV p l e (rmK 2 0 0) s m ([.ref mo, .int n] : List Value).toArray below meth c 4 base D (QB base D (PostM ct B G M mo (0, oRestore σ n)) noX below ([.ref mo, .int n] : List Value).toArray s 0 0) M1 0 0 164 [(0, .ref mo), (1, .int n), (2, .int (nI (gSv σ - 1))), (3, .int (nI u))] [] := by
                intro d
                induction d with
                | zero =>
                  intro u h1 h2 h3 M1 hH
                  have huu : u = gMade σ := by omega
                  subst huu
                  refine V_iload_n C dX4_restore_164 (by rfl) ?_
                  refine V_aload_n C dX4_restore_165 (by rfl) ?_
                  refine V_get C (ci := 4) hH.1.1 rfl wu_X4 1 (by decide) fl_X4_54 rfl (by rfl) dX4_restore_166 ?_
                  refine V_icmp_ge C 213 dX4_restore_169 (by decide) (fun h_169 => ?_) (fun h_169 => absurd h_169 (fun h => h (Int32.le_refl _)))
                  refine V_iconst C (0) dX4_restore_213 (by decide) ?_
                  refine V_istore_n C dX4_restore_214 (by decide) ?_
                  refine VV.loc [(0, .ref mo), (1, .int n), (2, .int (nI (gSv σ - 1))), (3, .int (nI 0))] ⟨rfl, rfl, rfl, rfl, trivial⟩ ?_
                  exact loop3 8 0 (by omega) (by omega) (by omega) M1 (hH.eq (show sf (sf (sf (sf (sw σ 0 (undo σ (gRb σ (gSv σ - 1)) (gRows σ - gRb σ (gSv σ - 1)))) 11 (sk (gRb σ (gSv σ - 1)))) 13 (sk (gSb σ (gSv σ - 1)))) 2 (thF σ (gFst σ (gSv σ - 1)) (gMade σ))) 1 (sk (gAlive σ - goneC σ (gFst σ (gSv σ - 1)) ((gMade σ) - gFst σ (gSv σ - 1)))) = sw (sf (sf (sf (sf (sw σ 0 (undo σ (gRb σ (gSv σ - 1)) (gRows σ - gRb σ (gSv σ - 1)))) 11 (sk (gRb σ (gSv σ - 1)))) 13 (sk (gSb σ (gSv σ - 1)))) 2 (thF σ (gFst σ (gSv σ - 1)) (gMade σ))) 1 (sk (gAlive σ - goneC σ (gFst σ (gSv σ - 1)) ((gMade σ) - gFst σ (gSv σ - 1))))) 2 (va_cpy (σ.2 3) (σ.2 2) (10 * (gSv σ - 1)) 0 0) by rw [cpy_0]; exact (sw_id (sf (sf (sf (sf (sw σ 0 (undo σ (gRb σ (gSv σ - 1)) (gRows σ - gRb σ (gSv σ - 1)))) 11 (sk (gRb σ (gSv σ - 1)))) 13 (sk (gSb σ (gSv σ - 1)))) 2 (thF σ (gFst σ (gSv σ - 1)) (gMade σ))) 1 (sk (gAlive σ - goneC σ (gFst σ (gSv σ - 1)) ((gMade σ) - gFst σ (gSv σ - 1))))) 2).symm))
                | succ d ih =>
                  intro u h1 h2 h3 M1 hH
                  rcases Nat.lt_or_ge u (gMade σ) with hu | hu
                  · refine V_iload_n C dX4_restore_164 (by rfl) ?_
                    refine V_aload_n C dX4_restore_165 (by rfl) ?_
                    refine V_get C (ci := 4) hH.1.1 rfl wu_X4 1 (by decide) fl_X4_54 rfl (by rfl) dX4_restore_166 ?_
                    refine V_icmp_ge C 213 dX4_restore_169 (by decide) (fun h_169 => absurd h_169 (fun h => absurd ((nI_leI (show gMade σ < 2 ^ 31 by omega) (by omega)).mp h) (by omega))) (fun h_169 => ?_)
                    refine V_aload_n C dX4_restore_172 (by rfl) ?_
                    refine V_get C (ci := 4) hH.1.1 rfl wu_X4 3 (by decide) fl_X4_7 rfl (by rfl) dX4_restore_173 ?_
                    refine V_iload_n C dX4_restore_176 (by rfl) ?_
                    refine Y_zld C hH rfl (by omega) (by decide) dX4_restore_177 ?_
                    refine V_top (y := nI (gThere σ u)) (show nI (thF σ (gFst σ (gSv σ - 1)) u u) = _ by rw [thF_at]) ?_
                    refine V_if_eq C 207 dX4_restore_178 (by decide) (fun h_178 => ?_) (fun h_178 => ?_)
                    · have e0 := (nI_b (t1 u)).1 h_178
                      have e1 : sf (sf (sf (sf (sw σ 0 (undo σ (gRb σ (gSv σ - 1)) (gRows σ - gRb σ (gSv σ - 1)))) 11 (sk (gRb σ (gSv σ - 1)))) 13 (sk (gSb σ (gSv σ - 1)))) 2 (thF σ (gFst σ (gSv σ - 1)) (u + 1))) 1 (sk (gAlive σ - goneC σ (gFst σ (gSv σ - 1)) ((u + 1) - gFst σ (gSv σ - 1)))) = sf (sf (sf (sf (sw σ 0 (undo σ (gRb σ (gSv σ - 1)) (gRows σ - gRb σ (gSv σ - 1)))) 11 (sk (gRb σ (gSv σ - 1)))) 13 (sk (gSb σ (gSv σ - 1)))) 2 (thF σ (gFst σ (gSv σ - 1)) u)) 1 (sk (gAlive σ - goneC σ (gFst σ (gSv σ - 1)) (u - gFst σ (gSv σ - 1)))) := by
                        rw [show u + 1 - gFst σ (gSv σ - 1) = (u - gFst σ (gSv σ - 1)) + 1 by omega, thF_s (Or.inl e0)]
                        simp only [goneC]
                        rw [show gFst σ (gSv σ - 1) + (u - gFst σ (gSv σ - 1)) = u by omega, if_neg (fun h => absurd h.1 (by omega)), Nat.add_zero]
                      refine V_inc1 C dX4_restore_207 (by rfl) (by decide) ?_
                      refine V_goto C 164 dX4_restore_210 (by decide) ?_
                      refine VV.loc [(0, .ref mo), (1, .int n), (2, .int (nI (gSv σ - 1))), (3, .int (nI (u + 1)))] ⟨rfl, rfl, rfl, (by rw [← nI_1]; rfl), trivial⟩ ?_
                      exact ih (u + 1) (by omega) (by omega) (by omega) M1 (hH.eq e1.symm)
                    · have e0 : gThere σ u = 1 := (nI_b (t1 u)).2 h_178
                      refine V_aload_n C dX4_restore_181 (by rfl) ?_
                      refine V_get C (ci := 4) hH.1.1 rfl wu_X4 4 (by decide) fl_X4_13 rfl (by rfl) dX4_restore_182 ?_
                      refine V_iload_n C dX4_restore_185 (by rfl) ?_
                      refine Y_zld C hH rfl (by omega) (by decide) dX4_restore_186 ?_
                      refine V_if_ne C 207 dX4_restore_187 (by decide) (fun h_187 => ?_) (fun h_187 => ?_)
                      · have e2 : gGlob σ u = 1 := (nI_b (t2 u)).2 h_187
                        have e1 : sf (sf (sf (sf (sw σ 0 (undo σ (gRb σ (gSv σ - 1)) (gRows σ - gRb σ (gSv σ - 1)))) 11 (sk (gRb σ (gSv σ - 1)))) 13 (sk (gSb σ (gSv σ - 1)))) 2 (thF σ (gFst σ (gSv σ - 1)) (u + 1))) 1 (sk (gAlive σ - goneC σ (gFst σ (gSv σ - 1)) ((u + 1) - gFst σ (gSv σ - 1)))) = sf (sf (sf (sf (sw σ 0 (undo σ (gRb σ (gSv σ - 1)) (gRows σ - gRb σ (gSv σ - 1)))) 11 (sk (gRb σ (gSv σ - 1)))) 13 (sk (gSb σ (gSv σ - 1)))) 2 (thF σ (gFst σ (gSv σ - 1)) u)) 1 (sk (gAlive σ - goneC σ (gFst σ (gSv σ - 1)) (u - gFst σ (gSv σ - 1)))) := by
                          rw [show u + 1 - gFst σ (gSv σ - 1) = (u - gFst σ (gSv σ - 1)) + 1 by omega, thF_s (Or.inr (by omega))]
                          simp only [goneC]
                          rw [show gFst σ (gSv σ - 1) + (u - gFst σ (gSv σ - 1)) = u by omega, if_neg (fun h => absurd h.2 (by omega)), Nat.add_zero]
                        refine V_inc1 C dX4_restore_207 (by rfl) (by decide) ?_
                        refine V_goto C 164 dX4_restore_210 (by decide) ?_
                        refine VV.loc [(0, .ref mo), (1, .int n), (2, .int (nI (gSv σ - 1))), (3, .int (nI (u + 1)))] ⟨rfl, rfl, rfl, (by rw [← nI_1]; rfl), trivial⟩ ?_
                        exact ih (u + 1) (by omega) (by omega) (by omega) M1 (hH.eq e1.symm)
                      · have e2 : gGlob σ u = 0 := (nI_b (t2 u)).1 h_187
                        have e3 : goneC σ (gFst σ (gSv σ - 1)) (u + 1 - gFst σ (gSv σ - 1)) = goneC σ (gFst σ (gSv σ - 1)) (u - gFst σ (gSv σ - 1)) + 1 := by
                          rw [show u + 1 - gFst σ (gSv σ - 1) = (u - gFst σ (gSv σ - 1)) + 1 by omega]
                          simp only [goneC]
                          rw [show gFst σ (gSv σ - 1) + (u - gFst σ (gSv σ - 1)) = u by omega, if_pos ⟨e0, e2⟩]
                        have e4 := goneC_le hO (f := gFst σ (gSv σ - 1)) (t := u + 1 - gFst σ (gSv σ - 1)) (by omega)
                        refine V_aload_n C dX4_restore_190 (by rfl) ?_
                        refine V_get C (ci := 4) hH.1.1 rfl wu_X4 3 (by decide) fl_X4_7 rfl (by rfl) dX4_restore_191 ?_
                        refine V_iload_n C dX4_restore_194 (by rfl) ?_
                        refine V_iconst C (0) dX4_restore_195 (by decide) ?_
                        refine Y_zst C hH (sf (sf (sf (sf (sw σ 0 (undo σ (gRb σ (gSv σ - 1)) (gRows σ - gRb σ (gSv σ - 1)))) 11 (sk (gRb σ (gSv σ - 1)))) 13 (sk (gSb σ (gSv σ - 1)))) 2 (thF σ (gFst σ (gSv σ - 1)) (u + 1))) 1 (sk (gAlive σ - goneC σ (gFst σ (gSv σ - 1)) (u - gFst σ (gSv σ - 1))))) rfl (by omega) (by decide) rfl (fun i _ => thF_p h3 e2 i) (by intro q h; unfold arM; split <;> first | rfl | exact absurd rfl h) (fun _ => rfl) dX4_restore_196 (fun M1 hH => ?_)
                        refine V_aload_n C dX4_restore_197 (by rfl) ?_
                        refine V_dup C dX4_restore_198 rfl ?_
                        refine V_get C (ci := 4) hH.1.1 rfl wu_X4 2 (by decide) fl_X4_61 rfl (by rfl) dX4_restore_199 ?_
                        refine V_iconst C (1) dX4_restore_202 (by decide) ?_
                        refine V_isub C dX4_restore_203 ?_
                        refine V_top (show nI (gAlive σ - goneC σ (gFst σ (gSv σ - 1)) (u - gFst σ (gSv σ - 1))) - nI 1 = nI (gAlive σ - goneC σ (gFst σ (gSv σ - 1)) (u + 1 - gFst σ (gSv σ - 1))) by rw [pk_sub (by omega), e3]; congr 1) ?_
                        refine Y_put C hH (sf (sf (sf (sf (sw σ 0 (undo σ (gRb σ (gSv σ - 1)) (gRows σ - gRb σ (gSv σ - 1)))) 11 (sk (gRb σ (gSv σ - 1)))) 13 (sk (gSb σ (gSv σ - 1)))) 2 (thF σ (gFst σ (gSv σ - 1)) (u + 1))) 1 (sk (gAlive σ - goneC σ (gFst σ (gSv σ - 1)) ((u + 1) - gFst σ (gSv σ - 1))))) (0) 2 (by decide) fl_X4_61 rfl rfl (by rfl) (by rfl) (by rfl) (by funext q; unfold arM; split <;> rfl) dX4_restore_204 (fun M1 hH => ?_)
                        refine V_inc1 C dX4_restore_207 (by rfl) (by decide) ?_
                        refine V_goto C 164 dX4_restore_210 (by decide) ?_
                        refine VV.loc [(0, .ref mo), (1, .int n), (2, .int (nI (gSv σ - 1))), (3, .int (nI (u + 1)))] ⟨rfl, rfl, rfl, (by rw [← nI_1]; rfl), trivial⟩ ?_
                        exact ih (u + 1) (by omega) (by omega) (by omega) M1 hH
                  · exact ih u (by omega) h2 h3 M1 hH
              have loop1 : ∀ d u : Nat, gRows σ ≤ u + d → u ≤ gRows σ → gRb σ (gSv σ - 1) ≤ u → ∀ M1 : Mem, HM ct B G M (sw σ 0 (undo σ (gRb σ (gSv σ - 1)) (u - gRb σ (gSv σ - 1)))) 0 M1 mo → VV p l e (rmK 2 0 0) s m ([.ref mo, .int n] : List Value).toArray below meth c 4 base D (QB base D (PostM ct B G M mo (0, oRestore σ n)) noX below ([.ref mo, .int n] : List Value).toArray s 0 0) M1 0 0 106 [(0, .ref mo), (1, .int n), (2, .int (nI (gSv σ - 1))), (3, .int (nI u))] [] := by
                intro d
                induction d with
                | zero =>
                  intro u h1 h2 h3 M1 hH
                  have huu : u = gRows σ := by omega
                  subst huu
                  refine V_iload_n C dX4_restore_106 (by rfl) ?_
                  refine V_aload_n C dX4_restore_107 (by rfl) ?_
                  refine V_get C (ci := 4) hH.1.1 rfl wu_X4 16 (by decide) fl_X4_67 rfl (by rfl) dX4_restore_108 ?_
                  refine V_icmp_ge C 137 dX4_restore_111 (by decide) (fun h_111 => ?_) (fun h_111 => absurd h_111 (fun h => h (Int32.le_refl _)))
                  refine V_aload_n C dX4_restore_137 (by rfl) ?_
                  refine V_aload_n C dX4_restore_138 (by rfl) ?_
                  refine V_get C (ci := 4) hH.1.1 rfl wu_X4 13 (by decide) fl_X4_32 rfl (by rfl) dX4_restore_139 ?_
                  refine V_iload_n C dX4_restore_142 (by rfl) ?_
                  refine Y_ild C hH rfl (show gSv σ - 1 < 16 by omega) (by decide) dX4_restore_143 ?_
                  refine Y_put C hH (sf (sw σ 0 (undo σ (gRb σ (gSv σ - 1)) (gRows σ - gRb σ (gSv σ - 1)))) 11 (sk (gRb σ (gSv σ - 1)))) (0) 16 (by decide) fl_X4_67 rfl rfl (by rfl) (by rfl) (by rfl) os_11 dX4_restore_144 (fun M1 hH => ?_)
                  refine V_aload_n C dX4_restore_147 (by rfl) ?_
                  refine V_aload_n C dX4_restore_148 (by rfl) ?_
                  refine V_get C (ci := 4) hH.1.1 rfl wu_X4 14 (by decide) fl_X4_35 rfl (by rfl) dX4_restore_149 ?_
                  refine V_iload_n C dX4_restore_152 (by rfl) ?_
                  refine Y_ild C hH rfl (show gSv σ - 1 < 16 by omega) (by decide) dX4_restore_153 ?_
                  refine Y_put C hH (sf (sf (sw σ 0 (undo σ (gRb σ (gSv σ - 1)) (gRows σ - gRb σ (gSv σ - 1)))) 11 (sk (gRb σ (gSv σ - 1)))) 13 (sk (gSb σ (gSv σ - 1)))) (0) 19 (by decide) fl_X4_83 rfl rfl (by rfl) (by rfl) (by rfl) os_13 dX4_restore_154 (fun M1 hH => ?_)
                  refine V_aload_n C dX4_restore_157 (by rfl) ?_
                  refine V_get C (ci := 4) hH.1.1 rfl wu_X4 12 (by decide) fl_X4_29 rfl (by rfl) dX4_restore_158 ?_
                  refine V_iload_n C dX4_restore_161 (by rfl) ?_
                  refine Y_ild C hH rfl (show gSv σ - 1 < 16 by omega) (by decide) dX4_restore_162 ?_
                  refine V_istore_n C dX4_restore_163 (by decide) ?_
                  refine VV.loc [(0, .ref mo), (1, .int n), (2, .int (nI (gSv σ - 1))), (3, .int (nI (gFst σ (gSv σ - 1))))] ⟨rfl, rfl, rfl, rfl, trivial⟩ ?_
                  exact loop2 (gMade σ) (gFst σ (gSv σ - 1)) (by omega) (s3 (gSv σ - 1) (by omega)) (Nat.le_refl _) M1 (hH.cong (by funext q; unfold arM; split <;> first | rfl | (show some (1, 600, nF (thF σ (gFst σ (gSv σ - 1)) (gFst σ (gSv σ - 1)))) = _; rw [thF_0]; rfl)) (show _ = _ by rw [show gFst σ (gSv σ - 1) - gFst σ (gSv σ - 1) = 0 by omega]; rfl))
                | succ d ih =>
                  intro u h1 h2 h3 M1 hH
                  rcases Nat.lt_or_ge u (gRows σ) with hu | hu
                  · refine V_iload_n C dX4_restore_106 (by rfl) ?_
                    refine V_aload_n C dX4_restore_107 (by rfl) ?_
                    refine V_get C (ci := 4) hH.1.1 rfl wu_X4 16 (by decide) fl_X4_67 rfl (by rfl) dX4_restore_108 ?_
                    refine V_icmp_ge C 137 dX4_restore_111 (by decide) (fun h_111 => absurd h_111 (fun h => absurd ((nI_leI (show gRows σ < 2 ^ 31 by omega) (by omega)).mp h) (by omega))) (fun h_111 => ?_)
                    refine V_aload_n C dX4_restore_114 (by rfl) ?_
                    refine V_get C (ci := 4) hH.1.1 rfl wu_X4 5 (by decide) fl_X4_16 rfl (by rfl) dX4_restore_115 ?_
                    refine V_aload_n C dX4_restore_118 (by rfl) ?_
                    refine V_get C (ci := 4) hH.1.1 rfl wu_X4 17 (by decide) fl_X4_41 rfl (by rfl) dX4_restore_119 ?_
                    refine V_iload_n C dX4_restore_122 (by rfl) ?_
                    refine Y_ild C hH rfl (by omega) (by decide) dX4_restore_123 ?_
                    refine V_aload_n C dX4_restore_124 (by rfl) ?_
                    refine V_get C (ci := 4) hH.1.1 rfl wu_X4 18 (by decide) fl_X4_44 rfl (by rfl) dX4_restore_125 ?_
                    refine V_iload_n C dX4_restore_128 (by rfl) ?_
                    refine Y_ild C hH rfl (by omega) (by decide) dX4_restore_129 ?_
                    refine Y_ist C hH (sw σ 0 (undo σ (gRb σ (gSv σ - 1)) ((u + 1) - gRb σ (gSv σ - 1)))) rfl (show gPl σ u < 4800 from hpl u h3 hu) (by decide) rfl (fun i _ => by rw [show u + 1 - gRb σ (gSv σ - 1) = (u - gRb σ (gSv σ - 1)) + 1 by omega]; show va_up _ (gPl σ u) (gVal σ u) i = va_up (undo σ (gRb σ (gSv σ - 1)) (u - gRb σ (gSv σ - 1))) (gPl σ (gRb σ (gSv σ - 1) + (u - gRb σ (gSv σ - 1)))) (gVal σ (gRb σ (gSv σ - 1) + (u - gRb σ (gSv σ - 1)))) i; rw [show gRb σ (gSv σ - 1) + (u - gRb σ (gSv σ - 1)) = u by omega]; rfl) (fun q h => (ho_5 q h).trans (ho_5 q h).symm) (fun _ => rfl) dX4_restore_130 (fun M1 hH => ?_)
                    refine V_inc1 C dX4_restore_131 (by rfl) (by decide) ?_
                    refine V_goto C 106 dX4_restore_134 (by decide) ?_
                    refine VV.loc [(0, .ref mo), (1, .int n), (2, .int (nI (gSv σ - 1))), (3, .int (nI (u + 1)))] ⟨rfl, rfl, rfl, (by rw [← nI_1]; rfl), trivial⟩ ?_
                    exact ih (u + 1) (by omega) (by omega) (by omega) M1 hH
                  · exact ih u (by omega) h2 h3 M1 hH
              refine V_aload_n C dX4_restore_99 (by rfl) ?_
              refine V_get C (ci := 4) hH.1.1 rfl wu_X4 13 (by decide) fl_X4_32 rfl (by rfl) dX4_restore_100 ?_
              refine V_iload_n C dX4_restore_103 (by rfl) ?_
              refine Y_ild C hH rfl (show gSv σ - 1 < 16 by omega) (by decide) dX4_restore_104 ?_
              refine V_istore_n C dX4_restore_105 (by decide) ?_
              refine VV.loc [(0, .ref mo), (1, .int n), (2, .int (nI (gSv σ - 1))), (3, .int (nI (gRb σ (gSv σ - 1))))] ⟨rfl, rfl, rfl, rfl, trivial⟩ ?_
              exact loop1 (gRows σ) (gRb σ (gSv σ - 1)) (by omega) (r1 (gSv σ - 1) (by omega)) (Nat.le_refl _) M7 (hH.eq (show σ = sw σ 0 (undo σ (gRb σ (gSv σ - 1)) (gRb σ (gSv σ - 1) - gRb σ (gSv σ - 1))) by rw [Nat.sub_self]; exact (sw_id σ 0).symm))
            · have hnw : isNw σ (gPa σ 8) (gFst σ (gSv σ - 1)) = true ∨ isNw σ (gPa σ 9) (gFst σ (gSv σ - 1)) = true := Or.inr (b2i_1 h_93)
              refine V_bipush C (-4) dX4_restore_96 (by decide) ?_
              exact V_iret C hr (by decide) (by decide) dX4_restore_98 (by rw [show oRestore σ n = (-4, σ) by unfold oRestore; rw [if_neg hrg, if_neg (by rw [hlv]; simp), if_neg (fun h => h hlast), if_pos hnw]]; exact ⟨rfl, hH⟩)
        · refine V_bipush C (-3) dX4_restore_46 (by decide) ?_
          exact V_iret C hr (by decide) (by decide) dX4_restore_48 (by rw [show oRestore σ n = (-3, σ) by unfold oRestore; rw [if_neg hrg, if_neg (by rw [hlv]; simp), if_pos (show nI (gNum σ (gSv σ - 1)) ≠ n from h_43)]]; exact ⟨rfl, hH⟩)
      · have hlv := b2i_0 h_25
        refine V_bipush C (-2) dX4_restore_28 (by decide) ?_
        exact V_iret C hr (by decide) (by decide) dX4_restore_30 (by rw [show oRestore σ n = (-2, σ) by unfold oRestore; rw [if_neg hrg, if_pos hlv]]; exact ⟨rfl, hH⟩)
    · refine V_iconst C (-1) dX4_restore_18 (by decide) ?_
      exact V_iret C hr (by decide) (by decide) dX4_restore_19 (by rw [show oRestore σ n = (-1, σ) by unfold oRestore; rw [if_pos (Or.inr (Int32.not_le.mp h_15))]]; exact ⟨rfl, hH⟩)
end
section
/-! SaveRestoreModel() -/
/-- the constructor's picture: the arrays L (field, kind, length) are made -/
def CN (ct : Nat → ClassId) (M0 : Mem) (mo : Nat) (L : List (Nat × Nat × Nat)) (fs : List Value) (B G : Nat → Nat) (M : Mem) : Prop :=
  M mo = some (.inr (4, fs)) ∧ G mo = 1 ∧ (∀ e ∈ L, G (B e.1) = e.1 + 2 ∧ M (B e.1) = some (.inl (ct e.2.1, e.2.2, .inl (fun _ => 0)))) ∧ (∀ a, G a ≠ 0 → (a = mo ∨ M0 a = none) ∧ M a ≠ none) ∧ (∀ a, a ≠ mo → M0 a ≠ none → M a = M0 a)
theorem CN.step {ct : Nat → ClassId} {M0 : Mem} {mo : Nat} {L : List (Nat × Nat × Nat)} {fs fs' : List Value} {B G : Nat → Nat} {M : Mem} (h : CN ct M0 mo L fs B G M) {q j t N : Nat} (fq : M q = none) (hj : ∀ e ∈ L, e.1 ≠ j) : CN ct M0 mo ((j, t, N) :: L) fs' (va_up B j q) (va_up G q (j + 2)) (mput (mput M q (.inl (ct t, N, .inl (fun _ => 0)))) mo (.inr (4, fs'))) := by
  obtain ⟨h1, h2, h3, h4, h5⟩ := h
  have hne : mo ≠ q := some_ne h1 fq
  refine ⟨mput_eq _ _ _, by rw [va_up_ne _ _ hne]; exact h2, fun e he => ?_, fun a ha => ?_, fun a h6 h7 => ?_⟩
  · rcases List.mem_cons.mp he with rfl | he
    · show va_up G q (j + 2) (va_up B j q j) = j + 2 ∧ _
      rw [va_up_self, va_up_self, mput_ne hne.symm, mput_eq]
      exact ⟨rfl, rfl⟩
    · obtain ⟨g1, g2⟩ := h3 e he
      rw [va_up_ne _ _ (hj e he), va_up_ne _ _ (some_ne g2 fq), mput_ne (ne_tag g1 h2 (by omega)), mput_ne (some_ne g2 fq)]
      exact ⟨g1, g2⟩
  · by_cases e1 : a = q
    · subst e1
      refine ⟨Or.inr ?_, by rw [mput_ne hne.symm, mput_eq]; exact fun h => by cases h⟩
      cases hq : M0 a with
      | none => rfl
      | some e => exact absurd (h5 a hne.symm (by rw [hq]; exact fun h => by cases h)) (by rw [fq, hq]; exact fun h => by cases h)
    · rw [va_up_ne _ _ e1] at ha
      obtain ⟨g1, g2⟩ := h4 a ha
      refine ⟨g1, ?_⟩
      by_cases e2 : a = mo
      · rw [e2, mput_eq]; exact fun h => by cases h
      · rw [mput_ne e2, mput_ne e1]; exact g2
  · have hq : a ≠ q := fun e => by
      rw [e] at h7 h6
      have := h5 q h6 h7
      rw [fq] at this
      exact h7 this.symm
    rw [mput_ne h6, mput_ne hq]; exact h5 a h6 h7
abbrev LN : List (Nat × Nat × Nat) := [(20, 0, 240), (18, 0, 600), (17, 0, 600), (15, 0, 160), (14, 0, 16), (13, 0, 16), (12, 0, 16), (11, 0, 16), (7, 0, 10), (6, 0, 4800), (5, 0, 4800), (4, 1, 600), (3, 1, 600)]
theorem CN.rep {ct : Nat → ClassId} {M0 : Mem} {mo : Nat} {fs : List Value} {B G : Nat → Nat} {M : Mem} (h : CN ct M0 mo LN fs B G M) (hf : fs = moL B sZ 0) : RepM ct B G sZ 0 M mo := by
  obtain ⟨n1, n2, n3, n4, n5⟩ := h
  refine ⟨by rw [← hf]; exact n1, ⟨n2, fun a ha => (n4 a ha).2⟩, fun k t N g hk => ?_⟩
  have hz : (k, t, N) ∈ LN ∧ ∀ j, g j = 0 := by
    unfold arM at hk
    split at hk
    all_goals first | (cases hk; exact ⟨by decide, fun _ => rfl⟩) | cases hk
  obtain ⟨e2, e1⟩ := hz
  obtain ⟨g1, g2⟩ := n3 _ e2
  exact ⟨g1, _, g2, fun j _ => (e1 j).symm⟩
section
variable {p : Program} {l : Launch} {e : Env} {R : Room} {s : State} {m : MethodId} {args : Array Value} {below : List Frame} {meth : Method} {c : Code} {cc : ByteArray} {nL base : Nat} {own : String} {D : va_G} {ct : Nat → ClassId} {sa : Nat → Nat} {Q : State → Prop} {M : Mem} {k n pc : Nat} {lv : List (Nat × Value)} {st : List Value}
theorem Z_int (C : Cx p l s m args meth c cc nL RX4 base D ct sa) (hnm : meth.name = "<init>") {M0 : Mem} {mo : Nat} {L : List (Nat × Nat × Nat)} {fs : List Value} {B G : Nat → Nat} (hN : CN ct M0 mo L fs B G M) (j N : Nat) {index : Nat} {ref : String} (hj : j < 21) (hjL : ∀ e ∈ L, e.1 ≠ j) (hl : Cond.fieldLink RX4 index ref (TX4 j).2.1 (TX4 j).2.2.1 ∈ WL) (href : (TX4 j).1 = ref) (hfin : (TX4 j).2.2.2 = true) (hown : (TX4 j).1 = RX4) (hty : ∀ q : Nat, narrow (tyX4 j) (.ref q) = .ref q ∧ fits (tyX4 j) (.ref q) = true) (hlen : fs.length = 21) (hz : ¬ nI N < 0) (hNn : (nI N).toNatClampNeg = N) (hb : N * componentBytes .int ≤ 536870912) (hk : k + 1 ≤ R.cells) (hs : n + N ≤ R.slots) (hd : decode cc pc = .ok (.newarray .int, 2)) (hd2 : decode cc (pc + 2) = .ok (.putfield index, 3))
    (kk : ∀ (q : Nat) (M' : Mem), CN ct M0 mo ((j, 0, N) :: L) (fs.set j (.ref q)) (va_up B j q) (va_up G q (j + 2)) M' → VV p l e R s m args below meth c nL base D Q M' (k + 1) (n + N) (pc + 2 + 3) lv st) : VV p l e R s m args below meth c nL base D Q M k n pc lv (.int (nI N) :: .ref mo :: st) := by
  refine V_newI C N ac_int hz hNn hb hk hs hd (fun q fq => ?_)
  have hne : mo ≠ q := some_ne hN.1 fq
  refine V_putF C (ci := 4) ((mput_ne hne).trans hN.1) rfl wu_X4 j hj hl href tyX4 tyX4_ok nmX4 hfin hnm hown (hty q).1 (hty q).2 (by rw [hlen]; exact hj) hd2 ?_
  exact kk q _ (hN.step fq hjL)
theorem Z_bool (C : Cx p l s m args meth c cc nL RX4 base D ct sa) (hnm : meth.name = "<init>") {M0 : Mem} {mo : Nat} {L : List (Nat × Nat × Nat)} {fs : List Value} {B G : Nat → Nat} (hN : CN ct M0 mo L fs B G M) (j N : Nat) {index : Nat} {ref : String} (hj : j < 21) (hjL : ∀ e ∈ L, e.1 ≠ j) (hl : Cond.fieldLink RX4 index ref (TX4 j).2.1 (TX4 j).2.2.1 ∈ WL) (href : (TX4 j).1 = ref) (hfin : (TX4 j).2.2.2 = true) (hown : (TX4 j).1 = RX4) (hty : ∀ q : Nat, narrow (tyX4 j) (.ref q) = .ref q ∧ fits (tyX4 j) (.ref q) = true) (hlen : fs.length = 21) (hz : ¬ nI N < 0) (hNn : (nI N).toNatClampNeg = N) (hb : N * componentBytes .boolean ≤ 536870912) (hk : k + 1 ≤ R.cells) (hs : n + N ≤ R.slots) (hd : decode cc pc = .ok (.newarray .boolean, 2)) (hd2 : decode cc (pc + 2) = .ok (.putfield index, 3))
    (kk : ∀ (q : Nat) (M' : Mem), CN ct M0 mo ((j, 1, N) :: L) (fs.set j (.ref q)) (va_up B j q) (va_up G q (j + 2)) M' → VV p l e R s m args below meth c nL base D Q M' (k + 1) (n + N) (pc + 2 + 3) lv st) : VV p l e R s m args below meth c nL base D Q M k n pc lv (.int (nI N) :: .ref mo :: st) := by
  refine V_newZ C N ac_boolean hz hNn hb hk hs hd (fun q fq => ?_)
  have hne : mo ≠ q := some_ne hN.1 fq
  refine V_putF C (ci := 4) ((mput_ne hne).trans hN.1) rfl wu_X4 j hj hl href tyX4 tyX4_ok nmX4 hfin hnm hown (hty q).1 (hty q).2 (by rw [hlen]; exact hj) hd2 ?_
  exact kk q _ (hN.step fq hjL)
end
set_option maxHeartbeats 4000000 in
set_option maxRecDepth 100000 in
theorem m_init (l : Launch) (hl : l.stackTraces = false) (base : Nat) (D : va_G) (ct : Nat → ClassId) (sa : Nat → Nat) {M : Mem} {mo : Nat} (hm : M mo = some (.inr (4, [.int 0, .int 0, .int 0, .null, .null, .null, .null, .null, .int 0, .int 0, .int 0, .null, .null, .null, .null, .null, .int 0, .null, .null, .int 0, .null]))) :
    CM l yX4_init (.code yX4_init cX4_init 1 none :: WL) (rmK 2 13 12600) base D ct sa M [.ref mo] (fun (v9 : Option Value) (M' : Mem) => v9 = none ∧ ∃ B G, RepM ct B G sZ 0 M' mo ∧ (∀ a, G a ≠ 0 → a = mo ∨ M a = none) ∧ (∀ a, a ≠ mo → M a ≠ none → M' a = M a)) := by
  refine CM.of hl (by decide) (Nat.le_of_ble_eq_true rfl) ?_
  intro p e s m below meth c C hr hnm
  refine V_aload_n C dX4_init_0 (by rfl) ?_
  refine V_objInit C ml_X4_1 im_oi co_oi dX4_init_1 (by decide) (by decide) ?_
  have hN : CN ct M mo [] [.int 0, .int 0, .int 0, .null, .null, .null, .null, .null, .int 0, .int 0, .int 0, .null, .null, .null, .null, .null, .int 0, .null, .null, .int 0, .null] (fun _ => 0) (fun a => if a = mo then 1 else 0) M := by
    refine ⟨hm, if_pos rfl, (fun e h => nomatch h), fun a ha => ?_, fun _ _ _ => rfl⟩
    by_cases e : a = mo
    · exact ⟨Or.inl e, by rw [e, hm]; exact fun h => by cases h⟩
    · exact absurd (if_neg e) ha
  refine V_aload_n C dX4_init_4 (by rfl) ?_
  refine V_sipush C (nI 600) dX4_init_5 (by decide) ?_
  refine Z_bool C hnm hN 3 600 (by decide) (by decide) fl_X4_7 rfl rfl rfl (fun _ => ⟨rfl, rfl⟩) rfl (by decide) (by decide) (by decide) (by decide) (by decide) dX4_init_8 dX4_init_10 (fun q3 M1 hN => ?_)
  refine V_aload_n C dX4_init_13 (by rfl) ?_
  refine V_sipush C (nI 600) dX4_init_14 (by decide) ?_
  refine Z_bool C hnm hN 4 600 (by decide) (by decide) fl_X4_13 rfl rfl rfl (fun _ => ⟨rfl, rfl⟩) rfl (by decide) (by decide) (by decide) (by decide) (by decide) dX4_init_17 dX4_init_19 (fun q4 M1 hN => ?_)
  refine V_aload_n C dX4_init_22 (by rfl) ?_
  refine V_sipush C (nI 4800) dX4_init_23 (by decide) ?_
  refine Z_int C hnm hN 5 4800 (by decide) (by decide) fl_X4_16 rfl rfl rfl (fun _ => ⟨rfl, rfl⟩) rfl (by decide) (by decide) (by decide) (by decide) (by decide) dX4_init_26 dX4_init_28 (fun q5 M1 hN => ?_)
  refine V_aload_n C dX4_init_31 (by rfl) ?_
  refine V_sipush C (nI 4800) dX4_init_32 (by decide) ?_
  refine Z_int C hnm hN 6 4800 (by decide) (by decide) fl_X4_20 rfl rfl rfl (fun _ => ⟨rfl, rfl⟩) rfl (by decide) (by decide) (by decide) (by decide) (by decide) dX4_init_35 dX4_init_37 (fun q6 M1 hN => ?_)
  refine V_aload_n C dX4_init_40 (by rfl) ?_
  refine V_bipush C (nI 10) dX4_init_41 (by decide) ?_
  refine Z_int C hnm hN 7 10 (by decide) (by decide) fl_X4_23 rfl rfl rfl (fun _ => ⟨rfl, rfl⟩) rfl (by decide) (by decide) (by decide) (by decide) (by decide) dX4_init_43 dX4_init_45 (fun q7 M1 hN => ?_)
  refine V_aload_n C dX4_init_48 (by rfl) ?_
  refine V_bipush C (nI 16) dX4_init_49 (by decide) ?_
  refine Z_int C hnm hN 11 16 (by decide) (by decide) fl_X4_26 rfl rfl rfl (fun _ => ⟨rfl, rfl⟩) rfl (by decide) (by decide) (by decide) (by decide) (by decide) dX4_init_51 dX4_init_53 (fun q11 M1 hN => ?_)
  refine V_aload_n C dX4_init_56 (by rfl) ?_
  refine V_bipush C (nI 16) dX4_init_57 (by decide) ?_
  refine Z_int C hnm hN 12 16 (by decide) (by decide) fl_X4_29 rfl rfl rfl (fun _ => ⟨rfl, rfl⟩) rfl (by decide) (by decide) (by decide) (by decide) (by decide) dX4_init_59 dX4_init_61 (fun q12 M1 hN => ?_)
  refine V_aload_n C dX4_init_64 (by rfl) ?_
  refine V_bipush C (nI 16) dX4_init_65 (by decide) ?_
  refine Z_int C hnm hN 13 16 (by decide) (by decide) fl_X4_32 rfl rfl rfl (fun _ => ⟨rfl, rfl⟩) rfl (by decide) (by decide) (by decide) (by decide) (by decide) dX4_init_67 dX4_init_69 (fun q13 M1 hN => ?_)
  refine V_aload_n C dX4_init_72 (by rfl) ?_
  refine V_bipush C (nI 16) dX4_init_73 (by decide) ?_
  refine Z_int C hnm hN 14 16 (by decide) (by decide) fl_X4_35 rfl rfl rfl (fun _ => ⟨rfl, rfl⟩) rfl (by decide) (by decide) (by decide) (by decide) (by decide) dX4_init_75 dX4_init_77 (fun q14 M1 hN => ?_)
  refine V_aload_n C dX4_init_80 (by rfl) ?_
  refine V_sipush C (nI 160) dX4_init_81 (by decide) ?_
  refine Z_int C hnm hN 15 160 (by decide) (by decide) fl_X4_38 rfl rfl rfl (fun _ => ⟨rfl, rfl⟩) rfl (by decide) (by decide) (by decide) (by decide) (by decide) dX4_init_84 dX4_init_86 (fun q15 M1 hN => ?_)
  refine V_aload_n C dX4_init_89 (by rfl) ?_
  refine V_sipush C (nI 600) dX4_init_90 (by decide) ?_
  refine Z_int C hnm hN 17 600 (by decide) (by decide) fl_X4_41 rfl rfl rfl (fun _ => ⟨rfl, rfl⟩) rfl (by decide) (by decide) (by decide) (by decide) (by decide) dX4_init_93 dX4_init_95 (fun q17 M1 hN => ?_)
  refine V_aload_n C dX4_init_98 (by rfl) ?_
  refine V_sipush C (nI 600) dX4_init_99 (by decide) ?_
  refine Z_int C hnm hN 18 600 (by decide) (by decide) fl_X4_44 rfl rfl rfl (fun _ => ⟨rfl, rfl⟩) rfl (by decide) (by decide) (by decide) (by decide) (by decide) dX4_init_102 dX4_init_104 (fun q18 M1 hN => ?_)
  refine V_aload_n C dX4_init_107 (by rfl) ?_
  refine V_sipush C (nI 240) dX4_init_108 (by decide) ?_
  refine Z_int C hnm hN 20 240 (by decide) (by decide) fl_X4_47 rfl rfl rfl (fun _ => ⟨rfl, rfl⟩) rfl (by decide) (by decide) (by decide) (by decide) (by decide) dX4_init_111 dX4_init_113 (fun q20 M1 hN => ?_)
  exact V_vretM C hr (by decide) (by decide) dX4_init_116 ⟨rfl, _, _, hN.rep rfl, fun a ha => (hN.2.2.2.1 a ha).1, hN.2.2.2.2⟩
end
section
/-! THE LAW: bodies with handlers, calls of them, the script, the switch; what the two pictures keep -/
theorem RepC.same {ct : Nat → ClassId} {A : Nat → Nat → Nat} {G ob : Nat → Nat} {σ : Sg} {M M' : Mem} {x B : Nat} (hC : RepC ct A G ob σ M x) (hI : Inv B σ) (h : ∀ a, G a ≠ 0 → M' a = M a) : RepC ct A G ob σ M' x := by
  obtain ⟨hx0, hG, hO, ⟨⟨tf, a1, a2⟩, ⟨s9, a3, a4⟩, a5, ⟨uf, a6, a7⟩, a8⟩, hT, hS, hR⟩ := hC
  have g : ∀ k, 1 ≤ k → k < 5 → M' (A k 0) = M (A k 0) := fun k h1 h2 => h _ (by rw [hG.2.1 k h1 h2]; omega)
  refine ⟨by rw [h x (by rw [hG.1]; decide)]; exact hx0, hG, hO, ⟨⟨tf, by rw [g 1 (by decide) (by decide)]; exact a1, a2⟩, ⟨s9, by rw [g 2 (by decide) (by decide)]; exact a3, a4⟩, a5.same (g 3 (by decide) (by decide)), ⟨uf, by rw [g 4 (by decide) (by decide)]; exact a6, a7⟩, fun k hk => ?_⟩, fun o ho => ?_, fun k hk => ?_, fun k r h1 h2 h3 => ?_⟩
  · obtain ⟨f, q1, q2⟩ := a8 k hk
    exact ⟨f, by rw [h _ (by rw [hG.2.2.1 k hk]; omega)]; exact q1, q2⟩
  · have t := hG.2.2.2.2.1 o ho
    exact (hT o ho).mv (h _ (by rw [t.1]; omega)) (h _ (by rw [t.2.1]; omega)) (h _ (by rw [t.2.2.1]; omega)) (h _ (by rw [t.2.2.2]; omega)) rfl (fun _ _ => rfl) (fun _ _ => rfl) (fun _ _ => rfl)
  · have t := hG.2.2.2.1 k hk
    exact (hS k hk).mv (h _ (by rw [t.1]; omega)) (h _ (by rw [t.2]; omega)) rfl rfl rfl rfl (fun _ _ => rfl) rfl rfl
  · exact (hR k r h1 h2 h3).mv (h _ (by rw [hG.2.2.2.2.2 r (Nat.lt_of_lt_of_le h3 (rbx_le hI _))]; omega)) rfl rfl rfl rfl
theorem RepM.same {ct : Nat → ClassId} {B G : Nat → Nat} {σ : Sg} {th : Int32} {M M' : Mem} {mo : Nat} (hR : RepM ct B G σ th M mo) (h : ∀ a, G a ≠ 0 → M' a = M a) : RepM ct B G σ th M' mo := by
  obtain ⟨h1, ⟨h2, h3⟩, h4⟩ := hR
  refine ⟨by rw [h mo (by rw [h2]; decide)]; exact h1, ⟨h2, fun a ha => by rw [h a ha]; exact h3 a ha⟩, fun k t N g hk => ?_⟩
  obtain ⟨g1, f, g2, g3⟩ := h4 k t N g hk
  exact ⟨g1, f, by rw [h _ (by rw [g1]; omega)]; exact g2, g3⟩
/-- a body with handlers -/
theorem CT.ofH {l : Launch} {y : MethodName} {cc : ByteArray} {nL : Nat} {ret : Option FieldType} {hh : List (Nat × Nat × Nat × Nat)} {rm : Room} {base : Nat} {D : va_G} {ct : Nat → ClassId} {sa : Nat → Nat} {M : Mem} {av : List Value} {post : Option Value → Mem → Prop} {px : String → Mem → Prop} (hl : l.stackTraces = false) (hy : plainName y.cls = true) (hlen : (lg_sl av).length ≤ nL)
    (body : ∀ p e s m below meth c, Cx p l s m av.toArray meth c cc nL y.cls base D ct sa → meth.sig.returnType = ret → c.exceptionTable.toList = tableOf hh → VV p l e rm s m av.toArray below meth c nL base D (QB base D post px below av.toArray s rm.cells rm.slots) M 0 0 0 (lv_args 0 av) []) :
    CT l y (.codeWith y cc nL ret hh :: WL) rm base D ct sa M av post px := by
  refine vx_ofWH (cc := cc) (maxL := nL) (ret := ret) (hh := hh) hy rfl ?_
  intro p e s m args below meth c s₁ B hml hv
  obtain ⟨rfl, hE, hW⟩ := hv
  have hts := atoms_spec (ws := .codeWith y cc nL ret hh :: WL) B.pre
  have hown : s.vm.findClass y.cls = some m.cls := findClass_of_methodNamed B.named
  have K := body p e s m below meth c ⟨B.exec, B.bytes, hml, hown, fun w hw => hts w (List.mem_cons_of_mem _ hw), hE, B.notSynchronized, hl⟩ B.returns (vx_table (x := y) B (hts _ List.mem_cons_self))
  have hl9 := lv_entry av (n := nL) hlen
  rw [lg_entry_eq]
  exact K s.heap [] _ hW va_S.rf hl9
/-- the words of a static call of such a body -/
def WSH (own : String) (idx : Nat) (y : MethodName) (bytes : ByteArray) (maxL : Nat) (ret : Option FieldType) (hh : List (Nat × Nat × Nat × Nat)) (np : Nat) : Prop :=
  (Cond.methodLink own idx y ∈ WL ∧ Cond.static y ∈ WL ∧ Cond.initialized y.cls ∈ WL ∧ Cond.codeWith y bytes maxL ret hh ∈ WL) ∧ (y.cls ≠ "java/lang/invoke/MethodHandle" ∧ y.cls ≠ "java/lang/invoke/VarHandle" ∧ (parseMethodDescriptor y.desc).map (fun d => d.parameters.length) = some np)
section
variable {p : Program} {l : Launch} {e : Env} {R : Room} {s : State} {m : MethodId} {args : Array Value} {below : List Frame} {meth : Method} {c : Code} {cc : ByteArray} {nL base : Nat} {own : String} {D : va_G} {ct : Nat → ClassId} {sa : Nat → Nat} {Q : State → Prop} {M : Mem} {k n pc : Nat} {lv : List (Nat × Value)} {st : List Value}
/-- a static call of such a body; nothing comes out of it -/
theorem V_callSH (C : Cx p l s m args meth c cc nL own base D ct sa) {idx np maxL : Nat} {y : MethodName} {bytes : ByteArray} {ret : Option FieldType} {hh : List (Nat × Nat × Nat × Nat)} {rm : Room} {As : List Value} {post : Option Value → Mem → Prop}
    (hM : CT l y (.codeWith y bytes maxL ret hh :: WL) rm base D ct sa M As post noX) (w : WSH own idx y bytes maxL ret hh np) (hn : As.length = np) (hR : rm.frames + 1 ≤ R.frames ∧ 8 + (maxL + 11) + rm.locals ≤ R.locals) (hcat : (st.map fun v => v.category).sum ≤ 8) (hf : k + rm.cells ≤ R.cells ∧ n + rm.slots ≤ R.slots) (hd : decode cc pc = .ok (.invokestatic idx, 3))
    (kk : ∀ (v : Option Value) (M' : Mem), post v M' → VV p l e R s m args below meth c nL base D Q M' (k + rm.cells) (n + rm.slots) (pc + 3) lv (v.toList ++ st)) : VV p l e R s m args below meth c nL base D Q M k n pc lv (As.reverse ++ st) := by
  intro H locs ls hW hS hL
  obtain ⟨⟨w1, w2, w4, w5⟩, w6⟩ := w
  have hG : GoodIn WL (va_wsS own idx y (.codeWith y bytes maxL ret hh :: WL)) := good_WL w5 (fun w hw => by
    simp only [List.mem_cons, List.not_mem_nil, or_false] at hw
    rcases hw with rfl | rfl | rfl
    · exact w1
    · exact w2
    · exact w4)
  have cw := vx_cwSW (R := R) (s := s) (args := args) (rm := rm) np C.2.2.2.2.1 hG rfl rfl rfl w6 hR
  exact VV.run (vx_runSX (Ts := WL) (As := As) ⟨C.1, C.2.1, C.2.2.1, C.2.2.2.1, C.2.2.2.2.1⟩ hM cw ⟨PreG.blind, PreG.here C hW hS _⟩ rfl hn hL.1 rfl (catF hcat) hd hf) hS hL (fun E M' ce q9 H1 locs1 h => h.elim) kk
/-- caught: by the handler q, past pre -/
theorem V_catch (C : Cx p l s m args meth c cc nL own base D ct sa) {hh : List (Nat × Nat × Nat × Nat)} (ht : c.exceptionTable.toList = tableOf hh) (pre : List (Nat × Nat × Nat × Nat)) (q : Nat × Nat × Nat × Nat) (suf : List (Nat × Nat × Nat × Nat)) (hs : hh = pre ++ q :: suf) {E : String}
    (hpass : ∀ z ∈ pre, z.2.2.2 ≠ 0 ∧ ∃ nm : String, Cond.classLink own z.2.2.2 nm ∈ WL ∧ va_Nc E nm s) (hcov : q.1 ≤ pc ∧ pc < q.2.1) (h0 : q.2.2.2 ≠ 0) (hl : Cond.classLink own q.2.2.2 E ∈ WL) (hcast : Cond.castable E E ∈ NGl)
    (kk : ∀ q9 : Nat, VV p l e R s m args below meth c nL base D Q M k n q.2.2.1 lv [.ref q9]) {ls : Array Slot} (hL : lv_has ls nL lv) {ce : Cell} {q9 : Addr} {H1 : Heap} {locs1 : List Loc} (hW : Wd base D M H1) (hS : va_S (Ab base) s.heap H1 locs1) (h4 : H1[q9]? = some ce) (h5 : ce.vm = .none) (h6 : s.vm.findClass E = some ce.cls) :
    vx_W p l e R s m args below meth c H1 locs1 k n Q (F0 m pc ls st) q9 := by
  have hc9 : va_Nw (.castable E E) s := C.2.2.2.2.2.1.2.2.2.1 _ hcast
  refine vx_catch (name := E) C.2.2.2.1 (tableOf pre) ⟨q.1, q.2.1, q.2.2.1, q.2.2.2⟩ (tableOf suf) (by rw [ht, hs]; simp [tableOf]) (fun z hz => ?_) (by simp [covers, hcov.1, hcov.2]) h0 (C.2.2.2.2.1 _ hl) (va_Nw.use rfl hc9) h4 h5 h6 (kk q9 H1 locs1 ls hW hS hL)
  obtain ⟨z0, hz0, rfl⟩ := List.mem_map.mp hz
  obtain ⟨g1, nm, g2, g3⟩ := hpass z0 hz0
  exact Or.inr ⟨g1, nm, C.2.2.2.2.1 _ g2, g3⟩
/-- the script -/
theorem V_sld (C : Cx p l s m args meth c cc nL own base D ct sa) {b L j : Nat} {xs : Nat → Int32} (hX : va_X b L xs s s.heap) (hbl : b < s.heap.size) (hbb : b < base) (hj : j < L) (hL0 : L < 2 ^ 31) (hd : decode cc pc = .ok (.iaload, 1)) (kk : VV p l e R s m args below meth c nL base D Q M k n (pc + 1) lv (.int (xs j) :: st)) : VV p l e R s m args below meth c nL base D Q M k n pc lv (.int (nI j) :: .ref b :: st) := by
  intro H locs ls hW hS hL
  refine va_sld C.1 C.2.1 hX hbl (fun h => absurd h (Nat.not_le.mpr hbb)) hS (vp_inN hj hL0) hd ?_
  rw [nI_clamp (Nat.lt_trans hj hL0)]
  exact kk H locs ls hW hS hL
theorem V_slen (C : Cx p l s m args meth c cc nL own base D ct sa) {b L : Nat} {xs : Nat → Int32} (hX : va_X b L xs s s.heap) (hbl : b < s.heap.size) (hbb : b < base) (hd : decode cc pc = .ok (.arraylength, 1)) (kk : VV p l e R s m args below meth c nL base D Q M k n (pc + 1) lv (.int (nI L) :: st)) : VV p l e R s m args below meth c nL base D Q M k n pc lv (.ref b :: st) := by
  intro H locs ls hW hS hL
  exact va_slen C.1 C.2.1 hX hbl (fun h => absurd h (Nat.not_le.mpr hbb)) hS hd (kk H locs ls hW hS hL)
theorem V_swOut (C : Cx p l s m args meth c cc nL own base D ct sa) {dflt lo hi : Int} {offs : Array Int} {len : Nat} {x : Int32} (tgt : Nat) (hd : decode cc pc = .ok (.tableswitch dflt lo hi offs, len)) (h : x.toInt < lo ∨ hi < x.toInt) (ht : (pc : Int) + dflt = (tgt : Int)) (kk : VV p l e R s m args below meth c nL base D Q M k n tgt lv st) : VV p l e R s m args below meth c nL base D Q M k n pc lv (.int x :: st) := by
  intro H locs ls hW hS hL
  exact lv_tableOut C.1 C.2.1 hd h ht (kk H locs ls hW hS hL)
theorem V_swIn (C : Cx p l s m args meth c cc nL own base D ct sa) {dflt lo hi : Int} {offs : Array Int} {len : Nat} {x : Int32} {off : Int} (tgt : Nat) (hd : decode cc pc = .ok (.tableswitch dflt lo hi offs, len)) (h1 : ¬ x.toInt < lo) (h2 : ¬ hi < x.toInt) (ho : offs[(x.toInt - lo).toNat]? = some off) (ht : (pc : Int) + off = (tgt : Int)) (kk : VV p l e R s m args below meth c nL base D Q M k n tgt lv st) : VV p l e R s m args below meth c nL base D Q M k n pc lv (.int x :: st) := by
  intro H locs ls hW hS hL
  exact lv_tableIn C.1 C.2.1 hd h1 h2 ho ht (kk H locs ls hW hS hL)
end
end
section
/-! what a call makes of Inv; which exceptions; the law's own methods object, put .. old -/
theorem iv_object {K : Nat} {σ : Sg} (h : Inv K σ) (g : Int32) : Inv (K + 1) (oObject σ g).2.2 := by
  unfold oObject
  split
  · exact h.mono (Nat.le_succ _)
  · exact inv_object h (by have := h.1.2.2.2.1; omega) g
theorem iv_put {K : Nat} {σ : Sg} (h : Inv K σ) (hK : K < 600) (k i v : Int32) : Inv (K + 1) (oPut σ k i v).2.2 := by
  unfold oPut
  split
  · exact h.mono (Nat.le_succ _)
  rename_i h1
  split
  · exact h.mono (Nat.le_succ _)
  rename_i h2
  split
  · exact h.mono (Nat.le_succ _)
  have hk : isO σ k = true := by
    cases e : isO σ k
    · exact absurd (Or.inl e) h1
    · rfl
  have hi : isN 8 i = true := by
    cases e : isN 8 i
    · exact absurd e h2
    · rfl
  obtain ⟨a, rfl, ha, ht, ea⟩ := isO_of hk (by have := h.1.1; omega)
  obtain ⟨j, hj, rfl, ej⟩ := isN_of hi (by decide)
  rw [ea, ej]
  show Inv (K + 1) (sw (if kept σ a (8 * a + j) then doKeep σ (8 * a + j) else σ) 0 (va_up (σ.2 0) (8 * a + j) v))
  split
  · rename_i hkk
    exact inv_cells (inv_keep h ht hj hkk) ha hj
  · exact (inv_cells h ha hj).mono (Nat.le_succ _)
theorem iv_get {K : Nat} {σ : Sg} (h : Inv K σ) (k i : Int32) : Inv (K + 1) (oGet σ k i).2.2 := by
  unfold oGet
  split
  · exact h.mono (Nat.le_succ _)
  split <;> exact h.mono (Nat.le_succ _)
theorem iv_stateOf {K : Nat} {σ : Sg} (h : Inv K σ) (i : Int32) : Inv (K + 1) (oStateOf σ i).2.2 := by
  unfold oStateOf
  split <;> exact h.mono (Nat.le_succ _)
theorem iv_old {K : Nat} {σ : Sg} (h : Inv K σ) (i : Int32) : Inv (K + 1) (oOld σ i).2.2 := by
  unfold oOld
  split <;> exact h.mono (Nat.le_succ _)
theorem iv_save {K : Nat} {σ : Sg} (h : Inv K σ) : Inv (K + 1) (oSave σ).2.2 := by
  unfold oSave
  split
  · exact h.mono (Nat.le_succ _)
  · exact inv_save h (by have := h.1.2.2.2.2.1; omega)
theorem iv_state {K : Nat} {σ : Sg} (h : Inv K σ) (i v : Int32) : Inv (K + 1) (oState σ i v).2.2 := by
  unfold oState
  split
  · exact h.mono (Nat.le_succ _)
  rename_i h1
  split
  · exact h.mono (Nat.le_succ _)
  have hv : isV σ v = true := by
    cases e : isV σ v
    · exact absurd e h1
    · rfl
  exact inv_state h hv
theorem iv_bytes {K : Nat} {σ : Sg} (h : Inv K σ) (hK : K < 600) (k i v : Int32) : Inv (K + 1) (oBytes σ k i v).2.2 := by
  unfold oBytes
  split
  · exact h.mono (Nat.le_succ _)
  rename_i h1
  split
  · exact h.mono (Nat.le_succ _)
  rename_i h2
  have hk : isO σ k = true := by
    cases e : isO σ k
    · exact absurd e h1
    · rfl
  have hi : isN 8 i = true := by
    cases e : isN 8 i
    · exact absurd (Or.inl e) h2
    · rfl
  obtain ⟨a, rfl, ha, ht, ea⟩ := isO_of hk (by have := h.1.1; omega)
  obtain ⟨j, hj, rfl, ej⟩ := isN_of hi (by decide)
  rw [ea, ej]
  exact inv_bytes h ha hj
theorem iv_push {K : Nat} {σ : Sg} (h : Inv K σ) : Inv (K + 1) (oPush σ).2.2 := by
  unfold oPush
  split
  · exact h.mono (Nat.le_succ _)
  · exact inv_push h (by have := h.1.2.2.2.2.2.1; omega)
theorem iv_pop {K : Nat} {σ : Sg} (h : Inv K σ) : Inv (K + 1) (oPop σ).2 := by
  unfold oPop
  split
  · exact h.mono (Nat.le_succ _)
  · exact inv_pop h (by omega)
theorem iv_restore {K : Nat} {σ : Sg} (h : Inv K σ) (n : Int32) : Inv (K + 1) (oRestore σ n).2 := by
  unfold oRestore
  split
  · exact h.mono (Nat.le_succ _)
  split
  · exact h.mono (Nat.le_succ _)
  rename_i h2
  split
  · exact h.mono (Nat.le_succ _)
  split
  · exact h.mono (Nat.le_succ _)
  rename_i h4
  have hlv : isLv σ n = true := by
    cases e : isLv σ n
    · exact absurd e h2
    · rfl
  obtain ⟨k, hk, -⟩ := List.any_eq_true.mp hlv
  have hk9 := List.mem_range.mp hk
  refine inv_restore h (k := gSv σ - 1) (by omega) ?_ ?_
  · cases e : isNw σ (gPa σ 8) (gFst σ (gSv σ - 1))
    · rfl
    · exact absurd (Or.inl e) h4
  · cases e : isNw σ (gPa σ 9) (gFst σ (gSv σ - 1))
    · rfl
    · exact absurd (Or.inr e) h4
/-- one of the codes 1 .. -/
def er1 (r : Nat × Int32 × Sg) (σ : Sg) : Prop := 0 < r.1 → r.2.2 = σ ∧ r.1 = 1
def er2 (r : Nat × Int32 × Sg) (σ : Sg) : Prop := 0 < r.1 → r.2.2 = σ ∧ (r.1 = 1 ∨ r.1 = 2)
def er3 (r : Nat × Int32 × Sg) (σ : Sg) : Prop := 0 < r.1 → r.2.2 = σ ∧ (r.1 = 1 ∨ r.1 = 2 ∨ r.1 = 3)
theorem er_put (σ : Sg) (k i v : Int32) : er3 (oPut σ k i v) σ := by
  unfold er3 oPut
  split
  · intro _; exact ⟨rfl, Or.inl rfl⟩
  split
  · intro _; exact ⟨rfl, Or.inr (Or.inl rfl)⟩
  split
  · intro _; exact ⟨rfl, Or.inr (Or.inr rfl)⟩
  · intro h; exact absurd h (Nat.lt_irrefl 0)
theorem er_get (σ : Sg) (k i : Int32) : er2 (oGet σ k i) σ := by
  unfold er2 oGet
  split
  · intro _; exact ⟨rfl, Or.inl rfl⟩
  split
  · intro _; exact ⟨rfl, Or.inr rfl⟩
  · intro h; exact absurd h (Nat.lt_irrefl 0)
theorem er_state (σ : Sg) (k i : Int32) : er2 (oState σ k i) σ := by
  unfold er2 oState
  split
  · intro _; exact ⟨rfl, Or.inl rfl⟩
  split
  · intro _; exact ⟨rfl, Or.inr rfl⟩
  · intro h; exact absurd h (Nat.lt_irrefl 0)
theorem er_bytes (σ : Sg) (k i v : Int32) : er2 (oBytes σ k i v) σ := by
  unfold er2 oBytes
  split
  · intro _; exact ⟨rfl, Or.inl rfl⟩
  split
  · intro _; exact ⟨rfl, Or.inr rfl⟩
  · intro h; exact absurd h (Nat.lt_irrefl 0)
theorem er_object (σ : Sg) (g : Int32) : er1 (oObject σ g) σ := by
  unfold er1 oObject
  split
  · intro _; exact ⟨rfl, rfl⟩
  · intro h; exact absurd h (Nat.lt_irrefl 0)
theorem er_save (σ : Sg) : er1 (oSave σ ) σ := by
  unfold er1 oSave
  split
  · intro _; exact ⟨rfl, rfl⟩
  · intro h; exact absurd h (Nat.lt_irrefl 0)
theorem er_stateOf (σ : Sg) (i : Int32) : er1 (oStateOf σ i) σ := by
  unfold er1 oStateOf
  split
  · intro _; exact ⟨rfl, rfl⟩
  · intro h; exact absurd h (Nat.lt_irrefl 0)
theorem er_push (σ : Sg) : er1 (oPush σ ) σ := by
  unfold er1 oPush
  split
  · intro _; exact ⟨rfl, rfl⟩
  · intro h; exact absurd h (Nat.lt_irrefl 0)
theorem er_old (σ : Sg) (k : Int32) : er1 (oOld σ k) σ := by
  unfold er1 oOld
  split
  · intro _; exact ⟨rfl, rfl⟩
  · intro h; exact absurd h (Nat.lt_irrefl 0)
/-- what a helper leaves: the code, the class's picture, the answer in out[0] -/
def PostH (ct : Nat → ClassId) (G : Nat → Nat) (M : Mem) (x out : Nat) (r : Nat × Int32 × Sg) : Option Value → Mem → Prop := fun v M' =>
  v = some (.int (nI r.1)) ∧ (∃ A' G' ob', RepC ct A' G' ob' r.2.2 M' x ∧ (∀ a, G' a ≠ 0 → G a ≠ 0 ∨ M a = none)) ∧ (∀ a, a ≠ out → G a = 0 → M a ≠ none → M' a = M a) ∧ ∃ f, M' out = some (.inl (ct 2, 1, .inr (.inl f))) ∧ (r.1 = 0 → f 0 = r.2.1.toInt64)
theorem postH_err {ct : Nat → ClassId} {A : Nat → Nat → Nat} {G ob : Nat → Nat} {σ : Sg} {M : Mem} {x out : Nat} {r : Nat × Int32 × Sg} {f : Nat → Int64} (hC : RepC ct A G ob σ M x) (ho : M out = some (.inl (ct 2, 1, .inr (.inl f)))) (hp : 0 < r.1) (hs : r.2.2 = σ) {c : Int32} (hc : c = nI r.1) : PostH ct G M x out r (some (.int c)) M :=
  ⟨by rw [hc], ⟨A, G, ob, by rw [hs]; exact hC, fun _ h => Or.inl h⟩, fun _ _ _ _ => rfl, f, ho, fun h => absurd hp (by omega)⟩
theorem postH_out {ct : Nat → ClassId} {G : Nat → Nat} {M M1 : Mem} {x out : Nat} {r : Nat × Int32 × Sg} {v : Option Value} {f : Nat → Int64} (h : PostC ct G M x r v M1) (ho : M out = some (.inl (ct 2, 1, .inr (.inl f)))) (hg : G out = 0) : M1 out = some (.inl (ct 2, 1, .inr (.inl f))) := by
  obtain ⟨-, -, A', G', ob', -, hF⟩ := h
  rw [hF.2 out hg (by rw [ho]; exact fun h => by cases h)]
  exact ho
theorem postH_ok {ct : Nat → ClassId} {G : Nat → Nat} {M M1 : Mem} {x out K : Nat} {r : Nat × Int32 × Sg} {v : Option Value} {f : Nat → Int64} (h : PostC ct G M x r v M1) (hI : Inv K r.2.2) (ho : M out = some (.inl (ct 2, 1, .inr (.inl f)))) (hg : G out = 0) : PostH ct G M x out r (some (.int (nI 0))) (mput M1 out (.inl (ct 2, 1, .inr (.inl (vp_updL f 0 r.2.1.toInt64))))) := by
  obtain ⟨h0, -, A', G', ob', hC, hF⟩ := h
  have hn : M out ≠ none := by rw [ho]; exact fun h => by cases h
  have hg' : G' out = 0 := by
    rcases Nat.eq_zero_or_pos (G' out) with q | q
    · exact q
    · rcases hF.1 out (by omega) with w | w
      · exact absurd hg w
      · exact absurd w hn
  refine ⟨by rw [h0], ⟨A', G', ob', hC.same hI (fun a ha => mput_ne (fun e => ha (by rw [e]; exact hg'))), hF.1⟩, fun a h1 h2 h3 => ?_, _, mput_eq _ _ _, fun _ => pk_uLs⟩
  rw [mput_ne h1]; exact hF.2 a h2 h3
set_option maxHeartbeats 4000000 in
set_option maxRecDepth 100000 in
theorem h_object (l : Launch) (hl : l.stackTraces = false) (base : Nat) (D : va_G) (ct : Nat → ClassId) (sa : Nat → Nat) {A : Nat → Nat → Nat} {G ob : Nat → Nat} {σ : Sg} {M : Mem} {x B : Nat} (hC : RepC ct A G ob σ M x) (hI : Inv B σ) (hB : B ≤ 600) {K' out : Nat} {f : Nat → Int64} (ho : M out = some (.inl (ct 2, 1, .inr (.inl f)))) (hg : G out = 0) (g : Int32) (hg1 : g = 0 ∨ g = 1) (hI' : Inv K' (oObject σ g).2.2) :
    CT l yL_object (.codeWith yL_object cL_object 4 (some .int) [(0, 9, 12, 13)] :: WL) (rmK 8 4 30) base D ct sa M [.ref x, .int g, .ref out] (PostH ct G M x out (oObject σ g)) noX := by
  refine CT.ofH hl (by decide) (Nat.le_of_ble_eq_true rfl) ?_
  intro p e s m below meth c C hr ht
  refine V_aload_n C dL_object_0 (by rfl) ?_
  refine V_iconst C (nI 0) dL_object_1 (by decide) ?_
  refine V_aload_n C dL_object_2 (by rfl) ?_
  refine V_iload_n C dL_object_3 (by rfl) ?_
  refine V_callVx C (As := [.int g]) (c_object l hl base D ct sa hC hI hB g hg1) w_L_7 hC.1 rfl rfl (by decide) (Nat.le_of_ble_eq_true rfl) ⟨by decide, by decide⟩ dL_object_4 (fun ls hL E M9 ce q9 H1 locs1 h1 h2 h3 h4 h5 h6 => ?_) (fun v9 M1 hv => ?_)
  · obtain ⟨hp, rfl, rfl⟩ := h1
    obtain ⟨hs, e9⟩ := er_object σ g hp
    have hE : nmU (oObject σ g).1 = "java/lang/UnsupportedOperationException" := by rw [e9]; rfl
    rw [hE] at h6
    exact V_catch C ht [] (0, 9, 12, 13) [] rfl (E := "java/lang/UnsupportedOperationException") (fun z hz => by cases hz) ⟨by decide, by decide⟩ (by decide) cl_L_13 (List.mem_of_getElem? (i := 0) rfl) (fun q9 => by
      refine V_astore_n C dL_object_12 (by decide) ?_
      refine V_iconst C (nI 1) dL_object_13 (by decide) ?_
      exact V_iret C hr (by decide) (by decide) dL_object_14 (postH_err hC ho hp hs (by rw [e9]))) hL h2 h3 h4 h5 h6
  · have hm := postH_out hv ho hg
    have hf := postH_ok hv hI' ho hg
    obtain ⟨-, rfl, -⟩ := hv
    refine VV.eqv (st' := [.int (oObject σ g).2.1, .int (nI 0), .ref out]) rfl rfl ?_
    refine V_i2l C dL_object_7 ?_
    refine N_last C hm (by decide) (by decide) dL_object_8 ?_
    refine V_goto C 15 dL_object_9 (by decide) ?_
    refine V_iconst C (nI 0) dL_object_15 (by decide) ?_
    exact V_iret C hr (by decide) (by decide) dL_object_16 hf
theorem wh_object : WSH RL 53 yL_object cL_object 4 (some .int) [(0, 9, 12, 13)] 3 := ⟨⟨ml_L_53, st_L_object, ini_L, cw_L_object⟩, by decide +kernel, by decide +kernel, by decide +kernel⟩
set_option maxHeartbeats 4000000 in
set_option maxRecDepth 100000 in
theorem h_put (l : Launch) (hl : l.stackTraces = false) (base : Nat) (D : va_G) (ct : Nat → ClassId) (sa : Nat → Nat) {A : Nat → Nat → Nat} {G ob : Nat → Nat} {σ : Sg} {M : Mem} {x B : Nat} (hC : RepC ct A G ob σ M x) (hI : Inv B σ) (hB : B ≤ 600) {K' out : Nat} {f : Nat → Int64} (ho : M out = some (.inl (ct 2, 1, .inr (.inl f)))) (hg : G out = 0) (k i v : Int32) (hI' : Inv K' (oPut σ k i v).2.2) :
    CT l yL_put (.codeWith yL_put cL_put 6 (some .int) [(0, 12, 15, 19), (0, 12, 19, 21), (0, 12, 23, 23)] :: WL) (rmK 8 5 32) base D ct sa M [.ref x, .int k, .int i, .int v, .ref out] (PostH ct G M x out (oPut σ k i v)) noX := by
  refine CT.ofH hl (by decide) (Nat.le_of_ble_eq_true rfl) ?_
  intro p e s m below meth c C hr ht
  refine V_aload C dL_put_0 (by rfl) ?_
  refine V_iconst C (nI 0) dL_put_2 (by decide) ?_
  refine V_aload_n C dL_put_3 (by rfl) ?_
  refine V_iload_n C dL_put_4 (by rfl) ?_
  refine V_iload_n C dL_put_5 (by rfl) ?_
  refine V_iload_n C dL_put_6 (by rfl) ?_
  refine V_callVx C (As := [.int k, .int i, .int v]) (c_put l hl base D ct sa hC hI hB k i v) w_L_15 hC.1 rfl rfl (by decide) (Nat.le_of_ble_eq_true rfl) ⟨by decide, by decide⟩ dL_put_7 (fun ls hL E M9 ce q9 H1 locs1 h1 h2 h3 h4 h5 h6 => ?_) (fun v9 M1 hv => ?_)
  · obtain ⟨hp, rfl, rfl⟩ := h1
    obtain ⟨hs, e9⟩ := er_put σ k i v hp
    rcases e9 with e9 | e9 | e9
    · have hE : nmN (oPut σ k i v).1 = "java/util/NoSuchElementException" := by rw [e9]; rfl
      rw [hE] at h6
      exact V_catch C ht [] (0, 12, 15, 19) [(0, 12, 19, 21), (0, 12, 23, 23)] rfl (E := "java/util/NoSuchElementException") (fun z hz => by cases hz) ⟨by decide, by decide⟩ (by decide) cl_L_19 (List.mem_of_getElem? (i := 1) rfl) (fun q9 => by
        refine V_astore C dL_put_15 (by decide) ?_
        refine V_iconst C (nI 1) dL_put_17 (by decide) ?_
        exact V_iret C hr (by decide) (by decide) dL_put_18 (postH_err hC ho hp hs (by rw [e9]))) hL h2 h3 h4 h5 h6
    · have hE : nmN (oPut σ k i v).1 = "java/lang/IndexOutOfBoundsException" := by rw [e9]; rfl
      rw [hE] at h6
      exact V_catch C ht [(0, 12, 15, 19)] (0, 12, 19, 21) [(0, 12, 23, 23)] rfl (E := "java/lang/IndexOutOfBoundsException") (fun z hz => by rw [List.mem_singleton] at hz; subst hz; exact ⟨by decide, _, cl_L_19, C.2.2.2.2.2.1.2.2.2.2.2.1.1⟩) ⟨by decide, by decide⟩ (by decide) cl_L_21 (List.mem_of_getElem? (i := 2) rfl) (fun q9 => by
        refine V_astore C dL_put_19 (by decide) ?_
        refine V_iconst C (nI 2) dL_put_21 (by decide) ?_
        exact V_iret C hr (by decide) (by decide) dL_put_22 (postH_err hC ho hp hs (by rw [e9]))) hL h2 h3 h4 h5 h6
    · have hE : nmN (oPut σ k i v).1 = "java/lang/IllegalStateException" := by rw [e9]; rfl
      rw [hE] at h6
      exact V_catch C ht [(0, 12, 15, 19), (0, 12, 19, 21)] (0, 12, 23, 23) [] rfl (E := "java/lang/IllegalStateException") (fun z hz => by rcases List.mem_cons.mp hz with rfl | hz; exact ⟨by decide, _, cl_L_19, C.2.2.2.2.2.1.2.2.2.2.2.1.2.1⟩; rw [List.mem_singleton] at hz; subst hz; exact ⟨by decide, _, cl_L_21, C.2.2.2.2.2.1.2.2.2.2.2.1.2.2⟩) ⟨by decide, by decide⟩ (by decide) cl_L_23 (List.mem_of_getElem? (i := 3) rfl) (fun q9 => by
        refine V_astore C dL_put_23 (by decide) ?_
        refine V_iconst C (nI 3) dL_put_25 (by decide) ?_
        exact V_iret C hr (by decide) (by decide) dL_put_26 (postH_err hC ho hp hs (by rw [e9]))) hL h2 h3 h4 h5 h6
  · have hm := postH_out hv ho hg
    have hf := postH_ok hv hI' ho hg
    obtain ⟨-, rfl, -⟩ := hv
    refine VV.eqv (st' := [.int (oPut σ k i v).2.1, .int (nI 0), .ref out]) rfl rfl ?_
    refine V_i2l C dL_put_10 ?_
    refine N_last C hm (by decide) (by decide) dL_put_11 ?_
    refine V_goto C 27 dL_put_12 (by decide) ?_
    refine V_iconst C (nI 0) dL_put_27 (by decide) ?_
    exact V_iret C hr (by decide) (by decide) dL_put_28 hf
theorem wh_put : WSH RL 62 yL_put cL_put 6 (some .int) [(0, 12, 15, 19), (0, 12, 19, 21), (0, 12, 23, 23)] 5 := ⟨⟨ml_L_62, st_L_put, ini_L, cw_L_put⟩, by decide +kernel, by decide +kernel, by decide +kernel⟩
set_option maxHeartbeats 4000000 in
set_option maxRecDepth 100000 in
theorem h_get (l : Launch) (hl : l.stackTraces = false) (base : Nat) (D : va_G) (ct : Nat → ClassId) (sa : Nat → Nat) {A : Nat → Nat → Nat} {G ob : Nat → Nat} {σ : Sg} {M : Mem} {x B : Nat} (hC : RepC ct A G ob σ M x) (hI : Inv B σ) (hB : B ≤ 600) {K' out : Nat} {f : Nat → Int64} (ho : M out = some (.inl (ct 2, 1, .inr (.inl f)))) (hg : G out = 0) (k i : Int32) (hI' : Inv K' (oGet σ k i).2.2) :
    CT l yL_get (.codeWith yL_get cL_get 5 (some .int) [(0, 10, 13, 19), (0, 10, 17, 21)] :: WL) (rmK 8 2 12) base D ct sa M [.ref x, .int k, .int i, .ref out] (PostH ct G M x out (oGet σ k i)) noX := by
  refine CT.ofH hl (by decide) (Nat.le_of_ble_eq_true rfl) ?_
  intro p e s m below meth c C hr ht
  refine V_aload_n C dL_get_0 (by rfl) ?_
  refine V_iconst C (nI 0) dL_get_1 (by decide) ?_
  refine V_aload_n C dL_get_2 (by rfl) ?_
  refine V_iload_n C dL_get_3 (by rfl) ?_
  refine V_iload_n C dL_get_4 (by rfl) ?_
  refine V_callVx C (As := [.int k, .int i]) (c_get l hl base D ct sa hC hI hB k i) w_L_25 hC.1 rfl rfl (by decide) (Nat.le_of_ble_eq_true rfl) ⟨by decide, by decide⟩ dL_get_5 (fun ls hL E M9 ce q9 H1 locs1 h1 h2 h3 h4 h5 h6 => ?_) (fun v9 M1 hv => ?_)
  · obtain ⟨hp, rfl, rfl⟩ := h1
    obtain ⟨hs, e9⟩ := er_get σ k i hp
    rcases e9 with e9 | e9
    · have hE : nmN (oGet σ k i).1 = "java/util/NoSuchElementException" := by rw [e9]; rfl
      rw [hE] at h6
      exact V_catch C ht [] (0, 10, 13, 19) [(0, 10, 17, 21)] rfl (E := "java/util/NoSuchElementException") (fun z hz => by cases hz) ⟨by decide, by decide⟩ (by decide) cl_L_19 (List.mem_of_getElem? (i := 1) rfl) (fun q9 => by
        refine V_astore C dL_get_13 (by decide) ?_
        refine V_iconst C (nI 1) dL_get_15 (by decide) ?_
        exact V_iret C hr (by decide) (by decide) dL_get_16 (postH_err hC ho hp hs (by rw [e9]))) hL h2 h3 h4 h5 h6
    · have hE : nmN (oGet σ k i).1 = "java/lang/IndexOutOfBoundsException" := by rw [e9]; rfl
      rw [hE] at h6
      exact V_catch C ht [(0, 10, 13, 19)] (0, 10, 17, 21) [] rfl (E := "java/lang/IndexOutOfBoundsException") (fun z hz => by rw [List.mem_singleton] at hz; subst hz; exact ⟨by decide, _, cl_L_19, C.2.2.2.2.2.1.2.2.2.2.2.1.1⟩) ⟨by decide, by decide⟩ (by decide) cl_L_21 (List.mem_of_getElem? (i := 2) rfl) (fun q9 => by
        refine V_astore C dL_get_17 (by decide) ?_
        refine V_iconst C (nI 2) dL_get_19 (by decide) ?_
        exact V_iret C hr (by decide) (by decide) dL_get_20 (postH_err hC ho hp hs (by rw [e9]))) hL h2 h3 h4 h5 h6
  · have hm := postH_out hv ho hg
    have hf := postH_ok hv hI' ho hg
    obtain ⟨-, rfl, -⟩ := hv
    refine VV.eqv (st' := [.int (oGet σ k i).2.1, .int (nI 0), .ref out]) rfl rfl ?_
    refine V_i2l C dL_get_8 ?_
    refine N_last C hm (by decide) (by decide) dL_get_9 ?_
    refine V_goto C 21 dL_get_10 (by decide) ?_
    refine V_iconst C (nI 0) dL_get_21 (by decide) ?_
    exact V_iret C hr (by decide) (by decide) dL_get_22 hf
theorem wh_get : WSH RL 66 yL_get cL_get 5 (some .int) [(0, 10, 13, 19), (0, 10, 17, 21)] 4 := ⟨⟨ml_L_66, st_L_get, ini_L, cw_L_get⟩, by decide +kernel, by decide +kernel, by decide +kernel⟩
set_option maxHeartbeats 4000000 in
set_option maxRecDepth 100000 in
theorem h_save (l : Launch) (hl : l.stackTraces = false) (base : Nat) (D : va_G) (ct : Nat → ClassId) (sa : Nat → Nat) {A : Nat → Nat → Nat} {G ob : Nat → Nat} {σ : Sg} {M : Mem} {x B : Nat} (hC : RepC ct A G ob σ M x) (hI : Inv B σ) (hB : B ≤ 600) {K' out : Nat} {f : Nat → Int64} (ho : M out = some (.inl (ct 2, 1, .inr (.inl f)))) (hg : G out = 0) (hI' : Inv K' (oSave σ).2.2) :
    CT l yL_save (.codeWith yL_save cL_save 3 (some .int) [(0, 8, 11, 13)] :: WL) (rmK 8 5 32) base D ct sa M [.ref x, .ref out] (PostH ct G M x out (oSave σ)) noX := by
  refine CT.ofH hl (by decide) (Nat.le_of_ble_eq_true rfl) ?_
  intro p e s m below meth c C hr ht
  refine V_aload_n C dL_save_0 (by rfl) ?_
  refine V_iconst C (nI 0) dL_save_1 (by decide) ?_
  refine V_aload_n C dL_save_2 (by rfl) ?_
  refine V_callVx C (As := []) (c_save l hl base D ct sa hC hI hB) w_L_29 hC.1 rfl rfl (by decide) (Nat.le_of_ble_eq_true rfl) ⟨by decide, by decide⟩ dL_save_3 (fun ls hL E M9 ce q9 H1 locs1 h1 h2 h3 h4 h5 h6 => ?_) (fun v9 M1 hv => ?_)
  · obtain ⟨hp, rfl, rfl⟩ := h1
    obtain ⟨hs, e9⟩ := er_save σ hp
    have hE : nmU (oSave σ).1 = "java/lang/UnsupportedOperationException" := by rw [e9]; rfl
    rw [hE] at h6
    exact V_catch C ht [] (0, 8, 11, 13) [] rfl (E := "java/lang/UnsupportedOperationException") (fun z hz => by cases hz) ⟨by decide, by decide⟩ (by decide) cl_L_13 (List.mem_of_getElem? (i := 0) rfl) (fun q9 => by
      refine V_astore_n C dL_save_11 (by decide) ?_
      refine V_iconst C (nI 1) dL_save_12 (by decide) ?_
      exact V_iret C hr (by decide) (by decide) dL_save_13 (postH_err hC ho hp hs (by rw [e9]))) hL h2 h3 h4 h5 h6
  · have hm := postH_out hv ho hg
    have hf := postH_ok hv hI' ho hg
    obtain ⟨-, rfl, -⟩ := hv
    refine VV.eqv (st' := [.int (oSave σ).2.1, .int (nI 0), .ref out]) rfl rfl ?_
    refine V_i2l C dL_save_6 ?_
    refine N_last C hm (by decide) (by decide) dL_save_7 ?_
    refine V_goto C 14 dL_save_8 (by decide) ?_
    refine V_iconst C (nI 0) dL_save_14 (by decide) ?_
    exact V_iret C hr (by decide) (by decide) dL_save_15 hf
theorem wh_save : WSH RL 70 yL_save cL_save 3 (some .int) [(0, 8, 11, 13)] 2 := ⟨⟨ml_L_70, st_L_save, ini_L, cw_L_save⟩, by decide +kernel, by decide +kernel, by decide +kernel⟩
set_option maxHeartbeats 4000000 in
set_option maxRecDepth 100000 in
theorem h_state (l : Launch) (hl : l.stackTraces = false) (base : Nat) (D : va_G) (ct : Nat → ClassId) (sa : Nat → Nat) {A : Nat → Nat → Nat} {G ob : Nat → Nat} {σ : Sg} {M : Mem} {x B : Nat} (hC : RepC ct A G ob σ M x) (hI : Inv B σ) (hB : B ≤ 600) {K' out : Nat} {f : Nat → Int64} (ho : M out = some (.inl (ct 2, 1, .inr (.inl f)))) (hg : G out = 0) (i v : Int32) (hI' : Inv K' (oState σ i v).2.2) :
    CT l yL_state (.codeWith yL_state cL_state 5 (some .int) [(0, 10, 13, 19), (0, 10, 17, 21)] :: WL) (rmK 8 2 12) base D ct sa M [.ref x, .int i, .int v, .ref out] (PostH ct G M x out (oState σ i v)) noX := by
  refine CT.ofH hl (by decide) (Nat.le_of_ble_eq_true rfl) ?_
  intro p e s m below meth c C hr ht
  refine V_aload_n C dL_state_0 (by rfl) ?_
  refine V_iconst C (nI 0) dL_state_1 (by decide) ?_
  refine V_aload_n C dL_state_2 (by rfl) ?_
  refine V_iload_n C dL_state_3 (by rfl) ?_
  refine V_iload_n C dL_state_4 (by rfl) ?_
  refine V_callVx C (As := [.int i, .int v]) (c_state l hl base D ct sa hC hI hB i v) w_L_33 hC.1 rfl rfl (by decide) (Nat.le_of_ble_eq_true rfl) ⟨by decide, by decide⟩ dL_state_5 (fun ls hL E M9 ce q9 H1 locs1 h1 h2 h3 h4 h5 h6 => ?_) (fun v9 M1 hv => ?_)
  · obtain ⟨hp, rfl, rfl⟩ := h1
    obtain ⟨hs, e9⟩ := er_state σ i v hp
    rcases e9 with e9 | e9
    · have hE : nmN (oState σ i v).1 = "java/util/NoSuchElementException" := by rw [e9]; rfl
      rw [hE] at h6
      exact V_catch C ht [] (0, 10, 13, 19) [(0, 10, 17, 21)] rfl (E := "java/util/NoSuchElementException") (fun z hz => by cases hz) ⟨by decide, by decide⟩ (by decide) cl_L_19 (List.mem_of_getElem? (i := 1) rfl) (fun q9 => by
        refine V_astore C dL_state_13 (by decide) ?_
        refine V_iconst C (nI 1) dL_state_15 (by decide) ?_
        exact V_iret C hr (by decide) (by decide) dL_state_16 (postH_err hC ho hp hs (by rw [e9]))) hL h2 h3 h4 h5 h6
    · have hE : nmN (oState σ i v).1 = "java/lang/IndexOutOfBoundsException" := by rw [e9]; rfl
      rw [hE] at h6
      exact V_catch C ht [(0, 10, 13, 19)] (0, 10, 17, 21) [] rfl (E := "java/lang/IndexOutOfBoundsException") (fun z hz => by rw [List.mem_singleton] at hz; subst hz; exact ⟨by decide, _, cl_L_19, C.2.2.2.2.2.1.2.2.2.2.2.1.1⟩) ⟨by decide, by decide⟩ (by decide) cl_L_21 (List.mem_of_getElem? (i := 2) rfl) (fun q9 => by
        refine V_astore C dL_state_17 (by decide) ?_
        refine V_iconst C (nI 2) dL_state_19 (by decide) ?_
        exact V_iret C hr (by decide) (by decide) dL_state_20 (postH_err hC ho hp hs (by rw [e9]))) hL h2 h3 h4 h5 h6
  · have hm := postH_out hv ho hg
    have hf := postH_ok hv hI' ho hg
    obtain ⟨-, rfl, -⟩ := hv
    refine VV.eqv (st' := [.int (oState σ i v).2.1, .int (nI 0), .ref out]) rfl rfl ?_
    refine V_i2l C dL_state_8 ?_
    refine N_last C hm (by decide) (by decide) dL_state_9 ?_
    refine V_goto C 21 dL_state_10 (by decide) ?_
    refine V_iconst C (nI 0) dL_state_21 (by decide) ?_
    exact V_iret C hr (by decide) (by decide) dL_state_22 hf
theorem wh_state : WSH RL 78 yL_state cL_state 5 (some .int) [(0, 10, 13, 19), (0, 10, 17, 21)] 4 := ⟨⟨ml_L_78, st_L_state, ini_L, cw_L_state⟩, by decide +kernel, by decide +kernel, by decide +kernel⟩
set_option maxHeartbeats 4000000 in
set_option maxRecDepth 100000 in
theorem h_stateOf (l : Launch) (hl : l.stackTraces = false) (base : Nat) (D : va_G) (ct : Nat → ClassId) (sa : Nat → Nat) {A : Nat → Nat → Nat} {G ob : Nat → Nat} {σ : Sg} {M : Mem} {x B : Nat} (hC : RepC ct A G ob σ M x) (hI : Inv B σ) (hB : B ≤ 600) {K' out : Nat} {f : Nat → Int64} (ho : M out = some (.inl (ct 2, 1, .inr (.inl f)))) (hg : G out = 0) (i : Int32) (hI' : Inv K' (oStateOf σ i).2.2) :
    CT l yL_stateOf (.codeWith yL_stateOf cL_stateOf 4 (some .int) [(0, 9, 12, 21)] :: WL) (rmK 8 2 12) base D ct sa M [.ref x, .int i, .ref out] (PostH ct G M x out (oStateOf σ i)) noX := by
  refine CT.ofH hl (by decide) (Nat.le_of_ble_eq_true rfl) ?_
  intro p e s m below meth c C hr ht
  refine V_aload_n C dL_stateOf_0 (by rfl) ?_
  refine V_iconst C (nI 0) dL_stateOf_1 (by decide) ?_
  refine V_aload_n C dL_stateOf_2 (by rfl) ?_
  refine V_iload_n C dL_stateOf_3 (by rfl) ?_
  refine V_callVx C (As := [.int i]) (c_stateOf l hl base D ct sa hC hI hB i) w_L_36 hC.1 rfl rfl (by decide) (Nat.le_of_ble_eq_true rfl) ⟨by decide, by decide⟩ dL_stateOf_4 (fun ls hL E M9 ce q9 H1 locs1 h1 h2 h3 h4 h5 h6 => ?_) (fun v9 M1 hv => ?_)
  · obtain ⟨hp, rfl, rfl⟩ := h1
    obtain ⟨hs, e9⟩ := er_stateOf σ i hp
    have hE : nmB (oStateOf σ i).1 = "java/lang/IndexOutOfBoundsException" := by rw [e9]; rfl
    rw [hE] at h6
    exact V_catch C ht [] (0, 9, 12, 21) [] rfl (E := "java/lang/IndexOutOfBoundsException") (fun z hz => by cases hz) ⟨by decide, by decide⟩ (by decide) cl_L_21 (List.mem_of_getElem? (i := 2) rfl) (fun q9 => by
      refine V_astore_n C dL_stateOf_12 (by decide) ?_
      refine V_iconst C (nI 1) dL_stateOf_13 (by decide) ?_
      exact V_iret C hr (by decide) (by decide) dL_stateOf_14 (postH_err hC ho hp hs (by rw [e9]))) hL h2 h3 h4 h5 h6
  · have hm := postH_out hv ho hg
    have hf := postH_ok hv hI' ho hg
    obtain ⟨-, rfl, -⟩ := hv
    refine VV.eqv (st' := [.int (oStateOf σ i).2.1, .int (nI 0), .ref out]) rfl rfl ?_
    refine V_i2l C dL_stateOf_7 ?_
    refine N_last C hm (by decide) (by decide) dL_stateOf_8 ?_
    refine V_goto C 15 dL_stateOf_9 (by decide) ?_
    refine V_iconst C (nI 0) dL_stateOf_15 (by decide) ?_
    exact V_iret C hr (by decide) (by decide) dL_stateOf_16 hf
theorem wh_stateOf : WSH RL 81 yL_stateOf cL_stateOf 4 (some .int) [(0, 9, 12, 21)] 3 := ⟨⟨ml_L_81, st_L_stateOf, ini_L, cw_L_stateOf⟩, by decide +kernel, by decide +kernel, by decide +kernel⟩
set_option maxHeartbeats 4000000 in
set_option maxRecDepth 100000 in
theorem h_push (l : Launch) (hl : l.stackTraces = false) (base : Nat) (D : va_G) (ct : Nat → ClassId) (sa : Nat → Nat) {A : Nat → Nat → Nat} {G ob : Nat → Nat} {σ : Sg} {M : Mem} {x B : Nat} (hC : RepC ct A G ob σ M x) (hI : Inv B σ) (hB : B ≤ 600) {K' out : Nat} {f : Nat → Int64} (ho : M out = some (.inl (ct 2, 1, .inr (.inl f)))) (hg : G out = 0) (hI' : Inv K' (oPush σ).2.2) :
    CT l yL_push (.codeWith yL_push cL_push 3 (some .int) [(0, 8, 11, 13)] :: WL) (rmK 8 3 18) base D ct sa M [.ref x, .ref out] (PostH ct G M x out (oPush σ)) noX := by
  refine CT.ofH hl (by decide) (Nat.le_of_ble_eq_true rfl) ?_
  intro p e s m below meth c C hr ht
  refine V_aload_n C dL_push_0 (by rfl) ?_
  refine V_iconst C (nI 0) dL_push_1 (by decide) ?_
  refine V_aload_n C dL_push_2 (by rfl) ?_
  refine V_callVx C (As := []) (c_push l hl base D ct sa hC hI hB) w_L_40 hC.1 rfl rfl (by decide) (Nat.le_of_ble_eq_true rfl) ⟨by decide, by decide⟩ dL_push_3 (fun ls hL E M9 ce q9 H1 locs1 h1 h2 h3 h4 h5 h6 => ?_) (fun v9 M1 hv => ?_)
  · obtain ⟨hp, rfl, rfl⟩ := h1
    obtain ⟨hs, e9⟩ := er_push σ hp
    have hE : nmU (oPush σ).1 = "java/lang/UnsupportedOperationException" := by rw [e9]; rfl
    rw [hE] at h6
    exact V_catch C ht [] (0, 8, 11, 13) [] rfl (E := "java/lang/UnsupportedOperationException") (fun z hz => by cases hz) ⟨by decide, by decide⟩ (by decide) cl_L_13 (List.mem_of_getElem? (i := 0) rfl) (fun q9 => by
      refine V_astore_n C dL_push_11 (by decide) ?_
      refine V_iconst C (nI 1) dL_push_12 (by decide) ?_
      exact V_iret C hr (by decide) (by decide) dL_push_13 (postH_err hC ho hp hs (by rw [e9]))) hL h2 h3 h4 h5 h6
  · have hm := postH_out hv ho hg
    have hf := postH_ok hv hI' ho hg
    obtain ⟨-, rfl, -⟩ := hv
    refine VV.eqv (st' := [.int (oPush σ).2.1, .int (nI 0), .ref out]) rfl rfl ?_
    refine V_i2l C dL_push_6 ?_
    refine N_last C hm (by decide) (by decide) dL_push_7 ?_
    refine V_goto C 14 dL_push_8 (by decide) ?_
    refine V_iconst C (nI 0) dL_push_14 (by decide) ?_
    exact V_iret C hr (by decide) (by decide) dL_push_15 hf
theorem wh_push : WSH RL 85 yL_push cL_push 3 (some .int) [(0, 8, 11, 13)] 2 := ⟨⟨ml_L_85, st_L_push, ini_L, cw_L_push⟩, by decide +kernel, by decide +kernel, by decide +kernel⟩
set_option maxHeartbeats 4000000 in
set_option maxRecDepth 100000 in
theorem h_bytes (l : Launch) (hl : l.stackTraces = false) (base : Nat) (D : va_G) (ct : Nat → ClassId) (sa : Nat → Nat) {A : Nat → Nat → Nat} {G ob : Nat → Nat} {σ : Sg} {M : Mem} {x B : Nat} (hC : RepC ct A G ob σ M x) (hI : Inv B σ) (hB : B ≤ 600) {K' out : Nat} {f : Nat → Int64} (ho : M out = some (.inl (ct 2, 1, .inr (.inl f)))) (hg : G out = 0) (k i v : Int32) (hI' : Inv K' (oBytes σ k i v).2.2) :
    CT l yL_bytes (.codeWith yL_bytes cL_bytes 6 (some .int) [(0, 12, 15, 19), (0, 12, 19, 21)] :: WL) (rmK 8 3 18) base D ct sa M [.ref x, .int k, .int i, .int v, .ref out] (PostH ct G M x out (oBytes σ k i v)) noX := by
  refine CT.ofH hl (by decide) (Nat.le_of_ble_eq_true rfl) ?_
  intro p e s m below meth c C hr ht
  refine V_aload C dL_bytes_0 (by rfl) ?_
  refine V_iconst C (nI 0) dL_bytes_2 (by decide) ?_
  refine V_aload_n C dL_bytes_3 (by rfl) ?_
  refine V_iload_n C dL_bytes_4 (by rfl) ?_
  refine V_iload_n C dL_bytes_5 (by rfl) ?_
  refine V_iload_n C dL_bytes_6 (by rfl) ?_
  refine V_callVx C (As := [.int k, .int i, .int v]) (c_bytes l hl base D ct sa hC hI hB k i v) w_L_43 hC.1 rfl rfl (by decide) (Nat.le_of_ble_eq_true rfl) ⟨by decide, by decide⟩ dL_bytes_7 (fun ls hL E M9 ce q9 H1 locs1 h1 h2 h3 h4 h5 h6 => ?_) (fun v9 M1 hv => ?_)
  · obtain ⟨hp, rfl, rfl⟩ := h1
    obtain ⟨hs, e9⟩ := er_bytes σ k i v hp
    rcases e9 with e9 | e9
    · have hE : nmN (oBytes σ k i v).1 = "java/util/NoSuchElementException" := by rw [e9]; rfl
      rw [hE] at h6
      exact V_catch C ht [] (0, 12, 15, 19) [(0, 12, 19, 21)] rfl (E := "java/util/NoSuchElementException") (fun z hz => by cases hz) ⟨by decide, by decide⟩ (by decide) cl_L_19 (List.mem_of_getElem? (i := 1) rfl) (fun q9 => by
        refine V_astore C dL_bytes_15 (by decide) ?_
        refine V_iconst C (nI 1) dL_bytes_17 (by decide) ?_
        exact V_iret C hr (by decide) (by decide) dL_bytes_18 (postH_err hC ho hp hs (by rw [e9]))) hL h2 h3 h4 h5 h6
    · have hE : nmN (oBytes σ k i v).1 = "java/lang/IndexOutOfBoundsException" := by rw [e9]; rfl
      rw [hE] at h6
      exact V_catch C ht [(0, 12, 15, 19)] (0, 12, 19, 21) [] rfl (E := "java/lang/IndexOutOfBoundsException") (fun z hz => by rw [List.mem_singleton] at hz; subst hz; exact ⟨by decide, _, cl_L_19, C.2.2.2.2.2.1.2.2.2.2.2.1.1⟩) ⟨by decide, by decide⟩ (by decide) cl_L_21 (List.mem_of_getElem? (i := 2) rfl) (fun q9 => by
        refine V_astore C dL_bytes_19 (by decide) ?_
        refine V_iconst C (nI 2) dL_bytes_21 (by decide) ?_
        exact V_iret C hr (by decide) (by decide) dL_bytes_22 (postH_err hC ho hp hs (by rw [e9]))) hL h2 h3 h4 h5 h6
  · have hm := postH_out hv ho hg
    have hf := postH_ok hv hI' ho hg
    obtain ⟨-, rfl, -⟩ := hv
    refine VV.eqv (st' := [.int (oBytes σ k i v).2.1, .int (nI 0), .ref out]) rfl rfl ?_
    refine V_i2l C dL_bytes_10 ?_
    refine N_last C hm (by decide) (by decide) dL_bytes_11 ?_
    refine V_goto C 23 dL_bytes_12 (by decide) ?_
    refine V_iconst C (nI 0) dL_bytes_23 (by decide) ?_
    exact V_iret C hr (by decide) (by decide) dL_bytes_24 hf
theorem wh_bytes : WSH RL 92 yL_bytes cL_bytes 6 (some .int) [(0, 12, 15, 19), (0, 12, 19, 21)] 5 := ⟨⟨ml_L_92, st_L_bytes, ini_L, cw_L_bytes⟩, by decide +kernel, by decide +kernel, by decide +kernel⟩
set_option maxHeartbeats 4000000 in
set_option maxRecDepth 100000 in
theorem h_old (l : Launch) (hl : l.stackTraces = false) (base : Nat) (D : va_G) (ct : Nat → ClassId) (sa : Nat → Nat) {A : Nat → Nat → Nat} {G ob : Nat → Nat} {σ : Sg} {M : Mem} {x B : Nat} (hC : RepC ct A G ob σ M x) (hI : Inv B σ) (hB : B ≤ 600) {K' out : Nat} {f : Nat → Int64} (ho : M out = some (.inl (ct 2, 1, .inr (.inl f)))) (hg : G out = 0) (k : Int32) (hI' : Inv K' (oOld σ k).2.2) :
    CT l yL_old (.codeWith yL_old cL_old 4 (some .int) [(0, 9, 12, 19)] :: WL) (rmK 8 2 12) base D ct sa M [.ref x, .int k, .ref out] (PostH ct G M x out (oOld σ k)) noX := by
  refine CT.ofH hl (by decide) (Nat.le_of_ble_eq_true rfl) ?_
  intro p e s m below meth c C hr ht
  refine V_aload_n C dL_old_0 (by rfl) ?_
  refine V_iconst C (nI 0) dL_old_1 (by decide) ?_
  refine V_aload_n C dL_old_2 (by rfl) ?_
  refine V_iload_n C dL_old_3 (by rfl) ?_
  refine V_callVx C (As := [.int k]) (c_old l hl base D ct sa hC hI hB k) w_L_46 hC.1 rfl rfl (by decide) (Nat.le_of_ble_eq_true rfl) ⟨by decide, by decide⟩ dL_old_4 (fun ls hL E M9 ce q9 H1 locs1 h1 h2 h3 h4 h5 h6 => ?_) (fun v9 M1 hv => ?_)
  · obtain ⟨hp, rfl, rfl⟩ := h1
    obtain ⟨hs, e9⟩ := er_old σ k hp
    have hE : nmN (oOld σ k).1 = "java/util/NoSuchElementException" := by rw [e9]; rfl
    rw [hE] at h6
    exact V_catch C ht [] (0, 9, 12, 19) [] rfl (E := "java/util/NoSuchElementException") (fun z hz => by cases hz) ⟨by decide, by decide⟩ (by decide) cl_L_19 (List.mem_of_getElem? (i := 1) rfl) (fun q9 => by
      refine V_astore_n C dL_old_12 (by decide) ?_
      refine V_iconst C (nI 1) dL_old_13 (by decide) ?_
      exact V_iret C hr (by decide) (by decide) dL_old_14 (postH_err hC ho hp hs (by rw [e9]))) hL h2 h3 h4 h5 h6
  · have hm := postH_out hv ho hg
    have hf := postH_ok hv hI' ho hg
    obtain ⟨-, rfl, -⟩ := hv
    refine VV.eqv (st' := [.int (oOld σ k).2.1, .int (nI 0), .ref out]) rfl rfl ?_
    refine V_i2l C dL_old_7 ?_
    refine N_last C hm (by decide) (by decide) dL_old_8 ?_
    refine V_goto C 15 dL_old_9 (by decide) ?_
    refine V_iconst C (nI 0) dL_old_15 (by decide) ?_
    exact V_iret C hr (by decide) (by decide) dL_old_16 hf
theorem wh_old : WSH RL 99 yL_old cL_old 4 (some .int) [(0, 9, 12, 19)] 3 := ⟨⟨ml_L_99, st_L_old, ini_L, cw_L_old⟩, by decide +kernel, by decide +kernel, by decide +kernel⟩
end
