/-! THE LAW: its loop, its start -/
theorem sub4 {L t : Nat} (hL : L ≤ 2048) (ht : 4 * t ≤ L) : (nI L - nI 4 < nI (4 * t)) ↔ L < 4 * t + 4 := by
  rw [Int32.lt_iff_toInt_lt, pk_sub_toInt (by omega) (by decide), nI_toInt (by omega)]
  omega
theorem V_end {p : Program} {l : Launch} {e : Env} {s : State} {m : MethodId} {below : List Frame} {meth : Method} {c : Code} {b : Nat} {base : Nat} {D : va_G} {ct : Nat → ClassId} {sa : Nat → Nat} {M : Mem} {k n pc : Nat} {lv : List (Nat × Value)} (C : Cx p l s m ([.ref b] : List Value).toArray meth c cL_law 7 RL base D ct sa) (hbase : base = s.heap.size) (hret : meth.sig.returnType = ret) (hk : k ≤ 601024) (hn : n ≤ 7293034) (hd : decode code pc = .ok (.ireturn, 1)) : VL p l e s m below meth c base D b M k n pc lv [.int 1] := by
  intro H locs ls hW hS hL
  refine va_forget (fun q hq => by rw [← hbase]; exact hS.2.2 q hq) ?_
  refine W.widen hk hn ?_
  exact lw_ret C.1 C.2.1 hret C.2.2.2.2.2.2.1 hd
set_option maxHeartbeats 4000000 in
set_option maxRecDepth 100000 in
theorem law_loop {p : Program} {l : Launch} {e : Env} {s : State} {m : MethodId} {below : List Frame} {meth : Method} {c : Code} {b L : Nat} {xs : Nat → Int32} {base : Nat} {D : va_G} {ct : Nat → ClassId} {sa : Nat → Nat} {x mo out : Nat} (hl : l.stackTraces = false) (C : Cx p l s m ([.ref b] : List Value).toArray meth c cL_law 7 RL base D ct sa) (hbase : base = s.heap.size) (hret : meth.sig.returnType = ret) (hX : va_X b L xs s s.heap) (hbl : b < s.heap.size) (hL : L ≤ 2048) :
    ∀ (d t : Nat) (σ : Sg) (M : Mem), L < 4 * t + d → 4 * t ≤ L → Inv t σ → LW ct x mo out σ M → VL p l e s m below meth c base D b M (200 + 5 * t) (14000 + 32 * t) 23 (LL b x mo out t) [] := by
  have hbb : b < base := by rw [hbase]; exact hbl
  intro d
  induction d with
  | zero => intro t σ M h1 h2; exact absurd h1 (by omega)
  | succ d ih =>
    intro t σ M h1 h2 hI hLW
    refine V_iload C dL_law_23 (by rfl) ?_
    refine V_aload_n C dL_law_25 (by rfl) ?_
    refine V_slen C hX hbl hbb dL_law_26 ?_
    refine V_iconst C (nI 4) dL_law_27 (by decide) ?_
    refine V_isub C dL_law_28 ?_
    refine V_icmp_gt C 742 dL_law_29 (by decide) (fun h_29 => ?_) (fun h_29 => ?_)
    · refine V_iconst C 1 dL_law_742 (by decide) ?_
      exact V_end C hbase hret (by omega) (by omega) dL_law_743
    · have ht : 4 * t + 4 ≤ L := Nat.le_of_not_lt (fun h => h_29 ((sub4 hL h2).mpr h))
      have next : ∀ (σ' : Sg) (M' : Mem) (k n : Nat), LW ct x mo out σ' M' → Inv (t + 1) σ' → k ≤ 205 + 5 * t → n ≤ 14032 + 32 * t → VL p l e s m below meth c base D b M' k n 736 (LL b x mo out t) [] := by
        intro σ' M' k n hLW' hI' hk hn
        refine V_iinc C (v := nI (4 * (t + 1))) dL_law_736 (by rfl) (show nI (4 * t) + nI 4 = _ by rw [nI_add]; congr 1) (by decide) ?_
        refine V_goto C 23 dL_law_739 (by decide) ?_
        refine VV.loc (LL b x mo out (t + 1)) ⟨rfl, rfl, rfl, rfl, rfl, trivial⟩ ?_
        refine VV.widen (k' := 200 + 5 * (t + 1)) (n' := 14000 + 32 * (t + 1)) (by omega) (by omega) ?_
        exact ih (t + 1) σ' M' (by omega) (by omega) hI' hLW'
      refine V_aload_n C dL_law_32 (by rfl) ?_
      refine V_iload C dL_law_33 (by rfl) ?_
      refine V_sld C hX hbl hbb (j := 4 * t) (by omega) (by omega) dL_law_35 ?_
      refine V_bipush C 15 dL_law_36 (by decide) ?_
      refine V_iand C dL_law_38 ?_
      obtain ⟨j, hj, ej⟩ := pk_andE (xs (4 * t)) (m := 15) 4 (by decide)
      refine V_top ej ?_
      rcases (show j = 0 ∨ j = 1 ∨ j = 2 ∨ j = 3 ∨ j = 4 ∨ j = 5 ∨ j = 6 ∨ j = 7 ∨ j = 8 ∨ j = 9 ∨ j = 10 ∨ j = 11 ∨ j = 12 ∨ j = 13 ∨ j = 14 ∨ j = 15 by omega) with rfl | rfl | rfl | rfl | rfl | rfl | rfl | rfl | rfl | rfl | rfl | rfl | rfl | rfl | rfl | rfl
      · refine V_swIn C 104 dL_law_39 (by decide) (by decide) (by rfl) (by decide) ?_
        exact law_object hl C hX hbl hbb hL ht hI hLW next
      · refine V_swIn C 176 dL_law_39 (by decide) (by decide) (by rfl) (by decide) ?_
        exact law_put hl C hX hbl hbb hL ht hI hLW next
      · refine V_swIn C 256 dL_law_39 (by decide) (by decide) (by rfl) (by decide) ?_
        exact law_get hl C hX hbl hbb hL ht hI hLW next
      · refine V_swIn C 324 dL_law_39 (by decide) (by decide) (by rfl) (by decide) ?_
        exact law_save hl C hX hbl hbb hL ht hI hLW next
      · refine V_swIn C 368 dL_law_39 (by decide) (by decide) (by rfl) (by decide) ?_
        exact law_restore hl C hX hbl hbb hL ht hI hLW next
      · refine V_swIn C 393 dL_law_39 (by decide) (by decide) (by rfl) (by decide) ?_
        exact law_state hl C hX hbl hbb hL ht hI hLW next
      · refine V_swIn C 461 dL_law_39 (by decide) (by decide) (by rfl) (by decide) ?_
        exact law_stateOf hl C hX hbl hbb hL ht hI hLW next
      · refine V_swIn C 517 dL_law_39 (by decide) (by decide) (by rfl) (by decide) ?_
        exact law_push hl C hX hbl hbb hL ht hI hLW next
      · refine V_swIn C 561 dL_law_39 (by decide) (by decide) (by rfl) (by decide) ?_
        exact law_pop hl C hX hbl hbb hL ht hI hLW next
      · refine V_swIn C 574 dL_law_39 (by decide) (by decide) (by rfl) (by decide) ?_
        exact law_bytes hl C hX hbl hbb hL ht hI hLW next
      · refine V_swIn C 654 dL_law_39 (by decide) (by decide) (by rfl) (by decide) ?_
        exact law_used hl C hX hbl hbb hL ht hI hLW next
      · refine V_swIn C 667 dL_law_39 (by decide) (by decide) (by rfl) (by decide) ?_
        exact law_old hl C hX hbl hbb hL ht hI hLW next
      · refine V_swIn C 723 dL_law_39 (by decide) (by decide) (by rfl) (by decide) ?_
        exact law_deepest hl C hX hbl hbb hL ht hI hLW next
      · refine V_swOut C 736 dL_law_39 (Or.inr (by decide)) (by decide) ?_
        exact next σ M _ _ hLW (hI.mono (Nat.le_succ _)) (by omega) (by omega)
      · refine V_swOut C 736 dL_law_39 (Or.inr (by decide)) (by decide) ?_
        exact next σ M _ _ hLW (hI.mono (Nat.le_succ _)) (by omega) (by omega)
      · refine V_swOut C 736 dL_law_39 (Or.inr (by decide)) (by decide) ?_
        exact next σ M _ _ hLW (hI.mono (Nat.le_succ _)) (by omega) (by omega)
