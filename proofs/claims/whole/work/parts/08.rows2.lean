/-! rows with indices as numbers, tops of the stack rewritten, increments -/
theorem ne_tag {α : Type} {G : Nat → α} {a b : Nat} {s t : α} (h : G a = s) (h2 : G b = t) (d : s ≠ t) : a ≠ b := fun e => d (by rw [← h, e]; exact h2)
theorem vp_inN {j N : Nat} (h : j < N) (hN : N < 2 ^ 31) : vp_in (nI j) N := vp_in_nI h hN
section
variable {p : Program} {l : Launch} {e : Env} {R : Room} {s : State} {m : MethodId} {args : Array Value} {below : List Frame} {meth : Method} {c : Code} {cc : ByteArray} {nL base : Nat} {own : String} {D : va_G} {ct : Nat → ClassId} {sa : Nat → Nat} {Q : State → Prop} {M : Mem} {k n pc : Nat} {lv : List (Nat × Value)} {st : List Value}
theorem V_top {x y : Int32} (h : x = y) (kk : VV p l e R s m args below meth c nL base D Q M k n pc lv (.int y :: st)) : VV p l e R s m args below meth c nL base D Q M k n pc lv (.int x :: st) := by
  subst h; exact kk
theorem V_top2 {x y : Int32} {w : Value} (h : x = y) (kk : VV p l e R s m args below meth c nL base D Q M k n pc lv (w :: .int y :: st)) : VV p l e R s m args below meth c nL base D Q M k n pc lv (w :: .int x :: st) := by
  subst h; exact kk
theorem V_topv {x y : Value} (h : x = y) (kk : VV p l e R s m args below meth c nL base D Q M k n pc lv (y :: st)) : VV p l e R s m args below meth c nL base D Q M k n pc lv (x :: st) := by
  subst h; exact kk
theorem V_inc1 (C : Cx p l s m args meth c cc nL own base D ct sa) {i : Nat} {x : Int32} (hd : decode cc pc = .ok (.iinc i 1, 3)) (hl : lget lv i = some (.int x)) (hn : i < nL) (kk : VV p l e R s m args below meth c nL base D Q M k n (pc + 3) (lset lv i (.int (x + 1))) st) : VV p l e R s m args below meth c nL base D Q M k n pc lv st := V_iinc C hd hl rfl hn kk
theorem V_incm (C : Cx p l s m args meth c cc nL own base D ct sa) {i : Nat} {x : Int32} (hd : decode cc pc = .ok (.iinc i (-1), 3)) (hl : lget lv i = some (.int x)) (hn : i < nL) (kk : VV p l e R s m args below meth c nL base D Q M k n (pc + 3) (lset lv i (.int (x + (-1)))) st) : VV p l e R s m args below meth c nL base D Q M k n pc lv st := V_iinc C hd hl rfl hn kk
theorem N_iald (C : Cx p l s m args meth c cc nL own base D ct sa) {a N j : Nat} {f : Nat → Int32} (hm : M a = some (.inl (ct 0, N, .inl f))) (hj : j < N) (hN : N < 2 ^ 31) (hd : decode cc pc = .ok (.iaload, 1)) (kk : VV p l e R s m args below meth c nL base D Q M k n (pc + 1) lv (.int (f j) :: st)) : VV p l e R s m args below meth c nL base D Q M k n pc lv (.int (nI j) :: .ref a :: st) := by
  refine V_iald C hm (vp_inN hj hN) hd ?_
  rw [nI_clamp (Nat.lt_trans hj hN)]
  exact kk
theorem N_zald (C : Cx p l s m args meth c cc nL own base D ct sa) {a N j : Nat} {f : Nat → Int32} (hm : M a = some (.inl (ct 1, N, .inl f))) (hj : j < N) (hN : N < 2 ^ 31) (hd : decode cc pc = .ok (.baload, 1)) (kk : VV p l e R s m args below meth c nL base D Q M k n (pc + 1) lv (.int (f j) :: st)) : VV p l e R s m args below meth c nL base D Q M k n pc lv (.int (nI j) :: .ref a :: st) := by
  refine V_zald C hm (vp_inN hj hN) hd ?_
  rw [nI_clamp (Nat.lt_trans hj hN)]
  exact kk
theorem N_lald (C : Cx p l s m args meth c cc nL own base D ct sa) {a N j : Nat} {f : Nat → Int64} (hm : M a = some (.inl (ct 2, N, .inr (.inl f)))) (hj : j < N) (hN : N < 2 ^ 31) (hd : decode cc pc = .ok (.laload, 1)) (kk : VV p l e R s m args below meth c nL base D Q M k n (pc + 1) lv (.long (f j) :: st)) : VV p l e R s m args below meth c nL base D Q M k n pc lv (.int (nI j) :: .ref a :: st) := by
  refine V_lald C hm (vp_inN hj hN) hd ?_
  rw [nI_clamp (Nat.lt_trans hj hN)]
  exact kk
theorem N_aldS (C : Cx p l s m args meth c cc nL own base D ct sa) {a N j b : Nat} {f : Nat → Option Nat} (hm : M a = some (.inl (ct 3, N, .inr (.inr (.inr (.inr f)))))) (hj : j < N) (hN : N < 2 ^ 31) (hf : f j = some b) (hd : decode cc pc = .ok (.aaload, 1)) (kk : VV p l e R s m args below meth c nL base D Q M k n (pc + 1) lv (.ref b :: st)) : VV p l e R s m args below meth c nL base D Q M k n pc lv (.int (nI j) :: .ref a :: st) := by
  refine V_aldS C hm (vp_inN hj hN) hd ?_
  rw [nI_clamp (Nat.lt_trans hj hN), hf]
  exact kk
theorem N_aldT (C : Cx p l s m args meth c cc nL own base D ct sa) {a N j b : Nat} {f : Nat → Option Nat} (hm : M a = some (.inl (ct 4, N, .inr (.inr (.inr (.inr f)))))) (hj : j < N) (hN : N < 2 ^ 31) (hf : f j = some b) (hd : decode cc pc = .ok (.aaload, 1)) (kk : VV p l e R s m args below meth c nL base D Q M k n (pc + 1) lv (.ref b :: st)) : VV p l e R s m args below meth c nL base D Q M k n pc lv (.int (nI j) :: .ref a :: st) := by
  refine V_aldT C hm (vp_inN hj hN) hd ?_
  rw [nI_clamp (Nat.lt_trans hj hN), hf]
  exact kk
theorem N_aldU (C : Cx p l s m args meth c cc nL own base D ct sa) {a N j b : Nat} {f : Nat → Option Nat} (hm : M a = some (.inl (ct 5, N, .inr (.inr (.inr (.inr f)))))) (hj : j < N) (hN : N < 2 ^ 31) (hf : f j = some b) (hd : decode cc pc = .ok (.aaload, 1)) (kk : VV p l e R s m args below meth c nL base D Q M k n (pc + 1) lv (.ref b :: st)) : VV p l e R s m args below meth c nL base D Q M k n pc lv (.int (nI j) :: .ref a :: st) := by
  refine V_aldU C hm (vp_inN hj hN) hd ?_
  rw [nI_clamp (Nat.lt_trans hj hN), hf]
  exact kk
theorem N_iast (C : Cx p l s m args meth c cc nL own base D ct sa) {a N j : Nat} {f : Nat → Int32} {x : Int32} (hm : M a = some (.inl (ct 0, N, .inl f))) (hj : j < N) (hN : N < 2 ^ 31) (hd : decode cc pc = .ok (.iastore, 1)) (kk : VV p l e R s m args below meth c nL base D Q (mput M a (.inl (ct 0, N, .inl (upd f j x)))) k n (pc + 1) lv st) : VV p l e R s m args below meth c nL base D Q M k n pc lv (.int x :: .int (nI j) :: .ref a :: st) := by
  refine V_iast C hm (vp_inN hj hN) hd ?_
  rw [nI_clamp (Nat.lt_trans hj hN)]
  exact kk
theorem N_last (C : Cx p l s m args meth c cc nL own base D ct sa) {a N j : Nat} {f : Nat → Int64} {x : Int64} (hm : M a = some (.inl (ct 2, N, .inr (.inl f)))) (hj : j < N) (hN : N < 2 ^ 31) (hd : decode cc pc = .ok (.lastore, 1)) (kk : VV p l e R s m args below meth c nL base D Q (mput M a (.inl (ct 2, N, .inr (.inl (vp_updL f j x))))) k n (pc + 1) lv st) : VV p l e R s m args below meth c nL base D Q M k n pc lv (.long x :: .int (nI j) :: .ref a :: st) := by
  refine V_last C hm (vp_inN hj hN) hd ?_
  rw [nI_clamp (Nat.lt_trans hj hN)]
  exact kk
theorem N_zast (C : Cx p l s m args meth c cc nL own base D ct sa) {a N j : Nat} {f : Nat → Int32} {x : Int32} (hm : M a = some (.inl (ct 1, N, .inl f))) (hj : j < N) (hN : N < 2 ^ 31) (hd : decode cc pc = .ok (.bastore, 1)) (kk : VV p l e R s m args below meth c nL base D Q (mput M a (.inl (ct 1, N, .inl (upd f j (vp_nar .boolean x))))) k n (pc + 1) lv st) : VV p l e R s m args below meth c nL base D Q M k n pc lv (.int x :: .int (nI j) :: .ref a :: st) := by
  refine V_zast C hm (vp_inN hj hN) hd ?_
  rw [nI_clamp (Nat.lt_trans hj hN)]
  exact kk
theorem N_aastS (C : Cx p l s m args meth c cc nL own base D ct sa) {a N j : Nat} {f : Nat → Option Nat} {x : Nat} {vs : List Value} (hx : M x = some (.inr (1, vs))) (hm : M a = some (.inl (ct 3, N, .inr (.inr (.inr (.inr f)))))) (hj : j < N) (hN : N < 2 ^ 31) (hd : decode cc pc = .ok (.aastore, 1)) (kk : VV p l e R s m args below meth c nL base D Q (mput M a (.inl (ct 3, N, .inr (.inr (.inr (.inr (va_up f j (some x)))))))) k n (pc + 1) lv st) : VV p l e R s m args below meth c nL base D Q M k n pc lv (.ref x :: .int (nI j) :: .ref a :: st) := by
  refine V_aastS C hm hx (vp_inN hj hN) hd ?_
  rw [nI_clamp (Nat.lt_trans hj hN)]
  exact kk
theorem N_aastT (C : Cx p l s m args meth c cc nL own base D ct sa) {a N j : Nat} {f : Nat → Option Nat} {x : Nat} {vs : List Value} (hx : M x = some (.inr (2, vs))) (hm : M a = some (.inl (ct 4, N, .inr (.inr (.inr (.inr f)))))) (hj : j < N) (hN : N < 2 ^ 31) (hd : decode cc pc = .ok (.aastore, 1)) (kk : VV p l e R s m args below meth c nL base D Q (mput M a (.inl (ct 4, N, .inr (.inr (.inr (.inr (va_up f j (some x)))))))) k n (pc + 1) lv st) : VV p l e R s m args below meth c nL base D Q M k n pc lv (.ref x :: .int (nI j) :: .ref a :: st) := by
  refine V_aastT C hm hx (vp_inN hj hN) hd ?_
  rw [nI_clamp (Nat.lt_trans hj hN)]
  exact kk
theorem N_copy (C : Cx p l s m args meth c cc nL own base D ct sa) {a b N0 N1 index sp dp z : Nat} {f g : Nat → Int32} (ha : M a = some (.inl (ct 0, N0, .inl f))) (hb : M b = some (.inl (ct 0, N1, .inl g))) (hl : Cond.methodLink own index arraycopyName ∈ WL) (h4 : sp + z ≤ N0) (h5 : dp + z ≤ N1) (hN0 : N0 < 2 ^ 31) (hN1 : N1 < 2 ^ 31) (hf : 1 ≤ R.frames) (hlo : (st.map fun v => v.category).sum + (nativeFrameWords "java/lang/System" "arraycopy" 5 + 11) ≤ R.locals) (hd : decode cc pc = .ok (.invokestatic index, 3)) (kk : VV p l e R s m args below meth c nL base D Q (mput M b (.inl (ct 0, N1, .inl (va_cpy f g sp dp z)))) k n (pc + 3) lv st) : VV p l e R s m args below meth c nL base D Q M k n pc lv (.int (nI z) :: .int (nI dp) :: .ref b :: .int (nI sp) :: .ref a :: st) := by
  have b1 : sp < 2 ^ 31 := by omega
  have b2 : dp < 2 ^ 31 := by omega
  have b3 : z < 2 ^ 31 := by omega
  refine V_copy C ha hb hl na_copy st_copy ini_Sys (nI_pos b1) (nI_pos b2) (nI_pos b3) (by rw [nI_clamp b1, nI_clamp b3]; exact h4) (by rw [nI_clamp b2, nI_clamp b3]; exact h5) hf hlo hd ?_
  rw [nI_clamp b1, nI_clamp b2, nI_clamp b3]
  exact kk
end
