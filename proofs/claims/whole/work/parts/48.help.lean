theorem dLaw_open_0 : decode cLaw_open 0 = .ok (.aload_n 2, 1) := by decide +kernel
theorem dLaw_open_1 : decode cLaw_open 1 = .ok (.iconst 0, 1) := by decide +kernel
theorem dLaw_open_2 : decode cLaw_open 2 = .ok (.aload_n 0, 1) := by decide +kernel
theorem dLaw_open_3 : decode cLaw_open 3 = .ok (.iload_n 1, 1) := by decide +kernel
theorem dLaw_open_4 : decode cLaw_open 4 = .ok (.invokevirtual 7, 3) := by decide +kernel
theorem dLaw_open_7 : decode cLaw_open 7 = .ok (.i2l, 1) := by decide +kernel
theorem dLaw_open_8 : decode cLaw_open 8 = .ok (.lastore, 1) := by decide +kernel
theorem dLaw_open_9 : decode cLaw_open 9 = .ok (.goto 6, 3) := by decide +kernel
theorem dLaw_open_12 : decode cLaw_open 12 = .ok (.astore_n 3, 1) := by decide +kernel
theorem dLaw_open_13 : decode cLaw_open 13 = .ok (.iconst 1, 1) := by decide +kernel
theorem dLaw_open_14 : decode cLaw_open 14 = .ok (.ireturn, 1) := by decide +kernel
theorem dLaw_open_15 : decode cLaw_open 15 = .ok (.iconst 0, 1) := by decide +kernel
theorem dLaw_open_16 : decode cLaw_open 16 = .ok (.ireturn, 1) := by decide +kernel
theorem dLaw_code_0 : decode cLaw_code 0 = .ok (.aload_n 3, 1) := by decide +kernel
theorem dLaw_code_1 : decode cLaw_code 1 = .ok (.iconst 0, 1) := by decide +kernel
theorem dLaw_code_2 : decode cLaw_code 2 = .ok (.aload_n 0, 1) := by decide +kernel
theorem dLaw_code_3 : decode cLaw_code 3 = .ok (.iload_n 1, 1) := by decide +kernel
theorem dLaw_code_4 : decode cLaw_code 4 = .ok (.iload_n 2, 1) := by decide +kernel
theorem dLaw_code_5 : decode cLaw_code 5 = .ok (.invokevirtual 15, 3) := by decide +kernel
theorem dLaw_code_8 : decode cLaw_code 8 = .ok (.i2l, 1) := by decide +kernel
theorem dLaw_code_9 : decode cLaw_code 9 = .ok (.lastore, 1) := by decide +kernel
theorem dLaw_code_10 : decode cLaw_code 10 = .ok (.goto 11, 3) := by decide +kernel
theorem dLaw_code_13 : decode cLaw_code 13 = .ok (.astore 4, 2) := by decide +kernel
theorem dLaw_code_15 : decode cLaw_code 15 = .ok (.iconst 1, 1) := by decide +kernel
theorem dLaw_code_16 : decode cLaw_code 16 = .ok (.ireturn, 1) := by decide +kernel
theorem dLaw_code_17 : decode cLaw_code 17 = .ok (.astore 4, 2) := by decide +kernel
theorem dLaw_code_19 : decode cLaw_code 19 = .ok (.iconst 2, 1) := by decide +kernel
theorem dLaw_code_20 : decode cLaw_code 20 = .ok (.ireturn, 1) := by decide +kernel
theorem dLaw_code_21 : decode cLaw_code 21 = .ok (.iconst 0, 1) := by decide +kernel
theorem dLaw_code_22 : decode cLaw_code 22 = .ok (.ireturn, 1) := by decide +kernel
theorem dLaw_seal_0 : decode cLaw_seal 0 = .ok (.aload_n 2, 1) := by decide +kernel
theorem dLaw_seal_1 : decode cLaw_seal 1 = .ok (.iconst 0, 1) := by decide +kernel
theorem dLaw_seal_2 : decode cLaw_seal 2 = .ok (.aload_n 0, 1) := by decide +kernel
theorem dLaw_seal_3 : decode cLaw_seal 3 = .ok (.iload_n 1, 1) := by decide +kernel
theorem dLaw_seal_4 : decode cLaw_seal 4 = .ok (.invokevirtual 23, 3) := by decide +kernel
theorem dLaw_seal_7 : decode cLaw_seal 7 = .ok (.i2l, 1) := by decide +kernel
theorem dLaw_seal_8 : decode cLaw_seal 8 = .ok (.lastore, 1) := by decide +kernel
theorem dLaw_seal_9 : decode cLaw_seal 9 = .ok (.goto 9, 3) := by decide +kernel
theorem dLaw_seal_12 : decode cLaw_seal 12 = .ok (.astore_n 3, 1) := by decide +kernel
theorem dLaw_seal_13 : decode cLaw_seal 13 = .ok (.iconst 1, 1) := by decide +kernel
theorem dLaw_seal_14 : decode cLaw_seal 14 = .ok (.ireturn, 1) := by decide +kernel
theorem dLaw_seal_15 : decode cLaw_seal 15 = .ok (.astore_n 3, 1) := by decide +kernel
theorem dLaw_seal_16 : decode cLaw_seal 16 = .ok (.iconst 2, 1) := by decide +kernel
theorem dLaw_seal_17 : decode cLaw_seal 17 = .ok (.ireturn, 1) := by decide +kernel
theorem dLaw_seal_18 : decode cLaw_seal 18 = .ok (.iconst 0, 1) := by decide +kernel
theorem dLaw_seal_19 : decode cLaw_seal 19 = .ok (.ireturn, 1) := by decide +kernel
theorem dLaw_balance_0 : decode cLaw_balance 0 = .ok (.aload_n 2, 1) := by decide +kernel
theorem dLaw_balance_1 : decode cLaw_balance 1 = .ok (.iconst 0, 1) := by decide +kernel
theorem dLaw_balance_2 : decode cLaw_balance 2 = .ok (.aload_n 0, 1) := by decide +kernel
theorem dLaw_balance_3 : decode cLaw_balance 3 = .ok (.iload_n 1, 1) := by decide +kernel
theorem dLaw_balance_4 : decode cLaw_balance 4 = .ok (.invokevirtual 30, 3) := by decide +kernel
theorem dLaw_balance_7 : decode cLaw_balance 7 = .ok (.i2l, 1) := by decide +kernel
theorem dLaw_balance_8 : decode cLaw_balance 8 = .ok (.lastore, 1) := by decide +kernel
theorem dLaw_balance_9 : decode cLaw_balance 9 = .ok (.goto 6, 3) := by decide +kernel
theorem dLaw_balance_12 : decode cLaw_balance 12 = .ok (.astore_n 3, 1) := by decide +kernel
theorem dLaw_balance_13 : decode cLaw_balance 13 = .ok (.iconst 1, 1) := by decide +kernel
theorem dLaw_balance_14 : decode cLaw_balance 14 = .ok (.ireturn, 1) := by decide +kernel
theorem dLaw_balance_15 : decode cLaw_balance 15 = .ok (.iconst 0, 1) := by decide +kernel
theorem dLaw_balance_16 : decode cLaw_balance 16 = .ok (.ireturn, 1) := by decide +kernel
theorem dLaw_storage_0 : decode cLaw_storage 0 = .ok (.aload_n 3, 1) := by decide +kernel
theorem dLaw_storage_1 : decode cLaw_storage 1 = .ok (.iconst 0, 1) := by decide +kernel
theorem dLaw_storage_2 : decode cLaw_storage 2 = .ok (.aload_n 0, 1) := by decide +kernel
theorem dLaw_storage_3 : decode cLaw_storage 3 = .ok (.iload_n 1, 1) := by decide +kernel
theorem dLaw_storage_4 : decode cLaw_storage 4 = .ok (.iload_n 2, 1) := by decide +kernel
theorem dLaw_storage_5 : decode cLaw_storage 5 = .ok (.invokevirtual 33, 3) := by decide +kernel
theorem dLaw_storage_8 : decode cLaw_storage 8 = .ok (.i2l, 1) := by decide +kernel
theorem dLaw_storage_9 : decode cLaw_storage 9 = .ok (.lastore, 1) := by decide +kernel
theorem dLaw_storage_10 : decode cLaw_storage 10 = .ok (.goto 7, 3) := by decide +kernel
theorem dLaw_storage_13 : decode cLaw_storage 13 = .ok (.astore 4, 2) := by decide +kernel
theorem dLaw_storage_15 : decode cLaw_storage 15 = .ok (.iconst 1, 1) := by decide +kernel
theorem dLaw_storage_16 : decode cLaw_storage 16 = .ok (.ireturn, 1) := by decide +kernel
theorem dLaw_storage_17 : decode cLaw_storage 17 = .ok (.iconst 0, 1) := by decide +kernel
theorem dLaw_storage_18 : decode cLaw_storage 18 = .ok (.ireturn, 1) := by decide +kernel
theorem dLaw_log_0 : decode cLaw_log 0 = .ok (.aload_n 2, 1) := by decide +kernel
theorem dLaw_log_1 : decode cLaw_log 1 = .ok (.iconst 0, 1) := by decide +kernel
theorem dLaw_log_2 : decode cLaw_log 2 = .ok (.aload_n 0, 1) := by decide +kernel
theorem dLaw_log_3 : decode cLaw_log 3 = .ok (.iload_n 1, 1) := by decide +kernel
theorem dLaw_log_4 : decode cLaw_log 4 = .ok (.invokevirtual 36, 3) := by decide +kernel
theorem dLaw_log_7 : decode cLaw_log 7 = .ok (.i2l, 1) := by decide +kernel
theorem dLaw_log_8 : decode cLaw_log 8 = .ok (.lastore, 1) := by decide +kernel
theorem dLaw_log_9 : decode cLaw_log 9 = .ok (.goto 6, 3) := by decide +kernel
theorem dLaw_log_12 : decode cLaw_log 12 = .ok (.astore_n 3, 1) := by decide +kernel
theorem dLaw_log_13 : decode cLaw_log 13 = .ok (.iconst 1, 1) := by decide +kernel
theorem dLaw_log_14 : decode cLaw_log 14 = .ok (.ireturn, 1) := by decide +kernel
theorem dLaw_log_15 : decode cLaw_log 15 = .ok (.iconst 0, 1) := by decide +kernel
theorem dLaw_log_16 : decode cLaw_log 16 = .ok (.ireturn, 1) := by decide +kernel
theorem dLaw_transact_0 : decode cLaw_transact 0 = .ok (.aload 5, 2) := by decide +kernel
theorem dLaw_transact_2 : decode cLaw_transact 2 = .ok (.iconst 0, 1) := by decide +kernel
theorem dLaw_transact_3 : decode cLaw_transact 3 = .ok (.aload_n 0, 1) := by decide +kernel
theorem dLaw_transact_4 : decode cLaw_transact 4 = .ok (.iload_n 1, 1) := by decide +kernel
theorem dLaw_transact_5 : decode cLaw_transact 5 = .ok (.iload_n 2, 1) := by decide +kernel
theorem dLaw_transact_6 : decode cLaw_transact 6 = .ok (.iload_n 3, 1) := by decide +kernel
theorem dLaw_transact_7 : decode cLaw_transact 7 = .ok (.iload 4, 2) := by decide +kernel
theorem dLaw_transact_9 : decode cLaw_transact 9 = .ok (.invokevirtual 26, 3) := by decide +kernel
theorem dLaw_transact_12 : decode cLaw_transact 12 = .ok (.i2l, 1) := by decide +kernel
theorem dLaw_transact_13 : decode cLaw_transact 13 = .ok (.lastore, 1) := by decide +kernel
theorem dLaw_transact_14 : decode cLaw_transact 14 = .ok (.goto 11, 3) := by decide +kernel
theorem dLaw_transact_17 : decode cLaw_transact 17 = .ok (.astore 6, 2) := by decide +kernel
theorem dLaw_transact_19 : decode cLaw_transact 19 = .ok (.iconst 1, 1) := by decide +kernel
theorem dLaw_transact_20 : decode cLaw_transact 20 = .ok (.ireturn, 1) := by decide +kernel
theorem dLaw_transact_21 : decode cLaw_transact 21 = .ok (.astore 6, 2) := by decide +kernel
theorem dLaw_transact_23 : decode cLaw_transact 23 = .ok (.iconst 2, 1) := by decide +kernel
theorem dLaw_transact_24 : decode cLaw_transact 24 = .ok (.ireturn, 1) := by decide +kernel
theorem dLaw_transact_25 : decode cLaw_transact 25 = .ok (.iconst 0, 1) := by decide +kernel
theorem dLaw_transact_26 : decode cLaw_transact 26 = .ok (.ireturn, 1) := by decide +kernel
theorem gw265 : .classLink RLaw 13 nIAE ∈ xG := List.mem_filter.mpr ⟨List.mem_of_getElem? (i := 265) (by decide +kernel), by decide +kernel⟩
theorem gw266 : .methodLink RLaw 7 yLed_open ∈ xG := List.mem_filter.mpr ⟨List.mem_of_getElem? (i := 266) (by decide +kernel), by decide +kernel⟩
theorem gw267 : .instanceMethod yLed_open ∈ xG := List.mem_filter.mpr ⟨List.mem_of_getElem? (i := 267) (by decide +kernel), by decide +kernel⟩
theorem gw268 : .selects RLed yLed_open yLed_open ∈ xG := List.mem_filter.mpr ⟨List.mem_of_getElem? (i := 268) (by decide +kernel), by decide +kernel⟩
theorem gw269 : .code yLed_open cLed_open 2 (some .int) ∈ xG := List.mem_filter.mpr ⟨List.mem_of_getElem? (i := 269) (by decide +kernel), by decide +kernel⟩
theorem gw347 : .classLink RLaw 19 nIOB ∈ xG := List.mem_filter.mpr ⟨List.mem_of_getElem? (i := 347) (by decide +kernel), by decide +kernel⟩
theorem gw348 : .classLink RLaw 21 nISE ∈ xG := List.mem_filter.mpr ⟨List.mem_of_getElem? (i := 348) (by decide +kernel), by decide +kernel⟩
theorem gw349 : .methodLink RLaw 15 yLed_code ∈ xG := List.mem_filter.mpr ⟨List.mem_of_getElem? (i := 349) (by decide +kernel), by decide +kernel⟩
theorem gw350 : .instanceMethod yLed_code ∈ xG := List.mem_filter.mpr ⟨List.mem_of_getElem? (i := 350) (by decide +kernel), by decide +kernel⟩
theorem gw351 : .selects RLed yLed_code yLed_code ∈ xG := List.mem_filter.mpr ⟨List.mem_of_getElem? (i := 351) (by decide +kernel), by decide +kernel⟩
theorem gw352 : .code yLed_code cLed_code 3 (some .int) ∈ xG := List.mem_filter.mpr ⟨List.mem_of_getElem? (i := 352) (by decide +kernel), by decide +kernel⟩
theorem gw411 : .methodLink RLaw 23 yLed_seal ∈ xG := List.mem_filter.mpr ⟨List.mem_of_getElem? (i := 411) (by decide +kernel), by decide +kernel⟩
theorem gw412 : .instanceMethod yLed_seal ∈ xG := List.mem_filter.mpr ⟨List.mem_of_getElem? (i := 412) (by decide +kernel), by decide +kernel⟩
theorem gw413 : .selects RLed yLed_seal yLed_seal ∈ xG := List.mem_filter.mpr ⟨List.mem_of_getElem? (i := 413) (by decide +kernel), by decide +kernel⟩
theorem gw414 : .code yLed_seal cLed_seal 2 (some .int) ∈ xG := List.mem_filter.mpr ⟨List.mem_of_getElem? (i := 414) (by decide +kernel), by decide +kernel⟩
theorem gw437 : .methodLink RLaw 26 yLed_transact ∈ xG := List.mem_filter.mpr ⟨List.mem_of_getElem? (i := 437) (by decide +kernel), by decide +kernel⟩
theorem gw438 : .instanceMethod yLed_transact ∈ xG := List.mem_filter.mpr ⟨List.mem_of_getElem? (i := 438) (by decide +kernel), by decide +kernel⟩
theorem gw439 : .selects RLed yLed_transact yLed_transact ∈ xG := List.mem_filter.mpr ⟨List.mem_of_getElem? (i := 439) (by decide +kernel), by decide +kernel⟩
theorem gw440 : .code yLed_transact cLed_transact 5 (some .int) ∈ xG := List.mem_filter.mpr ⟨List.mem_of_getElem? (i := 440) (by decide +kernel), by decide +kernel⟩
theorem gw616 : .methodLink RLaw 30 yLed_balance ∈ xG := List.mem_filter.mpr ⟨List.mem_of_getElem? (i := 616) (by decide +kernel), by decide +kernel⟩
theorem gw617 : .instanceMethod yLed_balance ∈ xG := List.mem_filter.mpr ⟨List.mem_of_getElem? (i := 617) (by decide +kernel), by decide +kernel⟩
theorem gw618 : .selects RLed yLed_balance yLed_balance ∈ xG := List.mem_filter.mpr ⟨List.mem_of_getElem? (i := 618) (by decide +kernel), by decide +kernel⟩
theorem gw619 : .code yLed_balance cLed_balance 2 (some .int) ∈ xG := List.mem_filter.mpr ⟨List.mem_of_getElem? (i := 619) (by decide +kernel), by decide +kernel⟩
theorem gw624 : .methodLink RLaw 33 yLed_storage ∈ xG := List.mem_filter.mpr ⟨List.mem_of_getElem? (i := 624) (by decide +kernel), by decide +kernel⟩
theorem gw625 : .instanceMethod yLed_storage ∈ xG := List.mem_filter.mpr ⟨List.mem_of_getElem? (i := 625) (by decide +kernel), by decide +kernel⟩
theorem gw626 : .selects RLed yLed_storage yLed_storage ∈ xG := List.mem_filter.mpr ⟨List.mem_of_getElem? (i := 626) (by decide +kernel), by decide +kernel⟩
theorem gw627 : .code yLed_storage cLed_storage 3 (some .int) ∈ xG := List.mem_filter.mpr ⟨List.mem_of_getElem? (i := 627) (by decide +kernel), by decide +kernel⟩
theorem gw632 : .methodLink RLaw 36 yLed_log ∈ xG := List.mem_filter.mpr ⟨List.mem_of_getElem? (i := 632) (by decide +kernel), by decide +kernel⟩
theorem gw633 : .instanceMethod yLed_log ∈ xG := List.mem_filter.mpr ⟨List.mem_of_getElem? (i := 633) (by decide +kernel), by decide +kernel⟩
theorem gw634 : .selects RLed yLed_log yLed_log ∈ xG := List.mem_filter.mpr ⟨List.mem_of_getElem? (i := 634) (by decide +kernel), by decide +kernel⟩
theorem gw635 : .code yLed_log cLed_log 2 (some .int) ∈ xG := List.mem_filter.mpr ⟨List.mem_of_getElem? (i := 635) (by decide +kernel), by decide +kernel⟩
abbrev wLaw_open : List Cond := .codeWith yLaw_open cLaw_open 4 (some .int) [(0, 9, 12, 13)] :: xG
abbrev wLaw_code : List Cond := .codeWith yLaw_code cLaw_code 5 (some .int) [(0, 10, 13, 19), (0, 10, 17, 21)] :: xG
abbrev wLaw_seal : List Cond := .codeWith yLaw_seal cLaw_seal 4 (some .int) [(0, 9, 12, 19), (0, 9, 15, 21)] :: xG
abbrev wLaw_transact : List Cond := .codeWith yLaw_transact cLaw_transact 7 (some .int) [(0, 14, 17, 19), (0, 14, 21, 13)] :: xG
abbrev wLaw_balance : List Cond := .codeWith yLaw_balance cLaw_balance 4 (some .int) [(0, 9, 12, 19)] :: xG
abbrev wLaw_storage : List Cond := .codeWith yLaw_storage cLaw_storage 5 (some .int) [(0, 10, 13, 19)] :: xG
abbrev wLaw_log : List Cond := .codeWith yLaw_log cLaw_log 4 (some .int) [(0, 9, 12, 19)] :: xG
section XEntryW
variable {X : (Nat → Prop) → State → Prop} {S : Type} {l : Launch} {y : MethodName} {cw cw' : List Cond} {rm : Room} {D : va_G} {cl : List vw_C} {tys : List (ClassId × FieldType)} {ws : va_W} {av : List Value} {mc ms maxL : Nat} {cc : ByteArray} {w1 : S → va_W}
theorem XM.ofIW {hh : List (Nat × Nat × Nat × Nat)} {post : Int32 → S → Prop} (hy : plainName y.cls = true) (hw : cw = Cond.codeWith y cc maxL (some .int) hh :: cw') (hlen : (lg_sl av).length ≤ maxL)
    (body : ∀ (p : Program) (e : Env) (s : State) (m : MethodId) (below : List Frame) (meth : Method) (c : Code) (A : Nat → Prop) (Q : State → Prop), p.tables.exec = Jvm.exec → c.code = cc → meth.sig.returnType = some .int → c.maxLocals = maxL → s.vm.findClass y.cls = some m.cls → (∀ w ∈ cw, w.before av.toArray s = true) → meth.locks = false → meth.name = y.name → c.exceptionTable.toList = tableOf hh → (∀ q : Nat, s.heap.size ≤ q → A q) → va_K D cl tys s → va_P D cl ws s.heap → va_D A ws → X A s → va_S A s.heap s.heap [] → ∀ ls, lv_has ls maxL (lv_args 0 av) →
      (∀ (r : Int32) (u : S) (H : Heap) (locs : List Loc) (ls : Array Slot) {pc : Nat}, post r u → va_P D cl (w1 u) H → va_D A (w1 u) → va_S A s.heap H locs → decode cc pc = .ok (.ireturn, 1) → W p l e rm s m av.toArray below meth c H locs mc ms Q (F0 m pc ls [.int r])) →
      W p l e rm s m av.toArray below meth c s.heap [] 0 0 Q (F0 m 0 ls [])) : XM X l y cw rm D cl tys ws av mc ms x_eI post w1 := by
  intro sz
  refine va_MetW (cc := cc) (maxL := maxL) (ret := some .int) (hh := hh) hy hw ?_
  intro p e s m args below meth c s₁ B hml hv
  obtain ⟨rfl, hsz, hP, hK, hD0, hX⟩ := hv
  subst hsz
  have hlocks := B.notSynchronized
  have htab := vx_table (x := y) B (atoms_spec (ws := cw) B.pre _ (by rw [hw]; exact List.mem_cons_self))
  rw [lg_entry_eq]
  exact body p e s m below meth c (va_A ws s.heap.size) _ B.exec B.bytes B.returns hml (findClass_of_methodNamed B.named) (atoms_spec (ws := cw) B.pre) hlocks (name_of_methodNamed B.named B.method).1 htab (fun q h => Or.inr h) hK hP hD0.self hX va_S.rf _ (lv_entry av hlen)
    (fun r u H locs ls pc hp h1 h2 h3 hd => W.iret (v := r) B.exec B.bytes B.returns (fun t ht hW => ⟨⟨r, u, rfl, hp, by rw [ht]; exact h1, va_K.moved hW.alike hK, h2⟩, h3.F ht⟩) h3.2.2 hd)
end XEntryW
section XTailCallsW
variable {X : (Nat → Prop) → State → Prop} {S : Type} {p : Program} {l : Launch} {e : Env} {R : Room} {s : State} {m : MethodId} {args : Array Value} {below : List Frame} {meth : Method} {c : Code} {H : Heap} {locs : List Loc} {cells slots : Nat} {Q : State → Prop}
  {y : MethodName} {cw : List Cond} {rm : Room} {D : va_G} {cl : List vw_C} {tys : List (ClassId × FieldType)} {ws wc wr pl : va_W} {mc ms n maxL nL index pc : Nat} {cc bytes : ByteArray} {ret : Option FieldType} {w1 rx px : S → va_W} {Ts : List Cond} {own Cn host : String} {A : Nat → Prop} {b ci : Nat} {As rest st0 : List Value} {fs : List Value} {ls : Array Slot} {T : u_T} {N : Nat} {hh : List (Nat × Nat × Nat × Nat)}
theorem XM.callSWQi {post : Int32 → S → Prop} (hXk : x_ok X) (CF : CallFix p m c cc nL s args Ts own) (hM : XM X l y cw rm D cl tys wc (As) mc ms x_eI post w1) (hcw : vx_CSW R s args own index y bytes maxL ret hh cw rm mc ms n) (hK : va_K D cl tys s) (hP : va_P D cl (ws ++ pl) H) (hD : va_D A (ws ++ pl)) (hS : va_S A s.heap H locs) (hA : ∀ q : Nat, s.heap.size ≤ q → A q) (hX : X A s)
    (isC isR : List Nat) (hC : isC.map (fun i => ws[i]?) = wc.map some) (hR : isR.map (fun i => ws[i]?) = wr.map some) (hn1 : va_nd isC = true) (hn2 : va_nd isR = true) (hdis : ∀ i ∈ isR, i ∉ isC) (hn : As.length = n) (hst : st0 = As.reverse ++ rest) (hsize : ls.size = nL) (hW : (rest.map fun v => v.category).sum ≤ 8) (hdg : decode cc pc = .ok (.invokestatic index, 3)) (hf : cells + mc ≤ R.cells ∧ slots + ms ≤ R.slots)
    (kk : ∀ (r : Int32) (u : S) (H1 : Heap) (locs1 : List Loc), post r u → va_P D cl ((wr ++ w1 u) ++ pl) H1 → va_D A ((wr ++ w1 u) ++ pl) → va_S A s.heap H1 locs1 → W p l e R s m args below meth c H1 locs1 (cells + mc) (slots + ms) Q (F0 m (pc + 3) ls (.int r :: rest))) :
    W p l e R s m args below meth c H locs cells slots Q (F0 m pc ls st0) := by
  refine XM.backQ (rest := rest) hXk hM hK hP hD hS hA hX isC isR hC hR hn1 hn2 hdis (fun Pc Qc hMet hbl hPc => ?_) (fun r u H1 locs1 h1 h2 h3 h4 => ?_)
  · exact vx_runSW (As := As) (rest := rest) CF hMet hcw ⟨hbl, hPc⟩ rfl hn hsize hst (lv_room hW) hdg hf
  · exact kk r u H1 locs1 h1 h2 h3 h4
theorem XM.callSWPi {post : Int32 → S → Prop} (hXk : x_ok X) (CF : CallFix p m c cc nL s args Ts own) (hM : XM X l y cw rm D cl tys (wc ++ pl) (As) mc ms x_eI post (fun u => rx u ++ px u)) (hcw : vx_CSW R s args own index y bytes maxL ret hh cw rm mc ms n) (hK : va_K D cl tys s) (hP : va_P D cl (ws ++ pl) H) (hD : va_D A (ws ++ pl)) (hS : va_S A s.heap H locs) (hA : ∀ q : Nat, s.heap.size ≤ q → A q) (hX : X A s)
    (isC isR : List Nat) (hC : isC.map (fun i => ws[i]?) = wc.map some) (hR : isR.map (fun i => ws[i]?) = wr.map some) (hn1 : va_nd isC = true) (hn2 : va_nd isR = true) (hdis : ∀ i ∈ isR, i ∉ isC) (hn : As.length = n) (hst : st0 = As.reverse ++ rest) (hsize : ls.size = nL) (hW : (rest.map fun v => v.category).sum ≤ 8) (hdg : decode cc pc = .ok (.invokestatic index, 3)) (hf : cells + mc ≤ R.cells ∧ slots + ms ≤ R.slots)
    (kk : ∀ (r : Int32) (u : S) (H1 : Heap) (locs1 : List Loc), post r u → va_P D cl ((wr ++ rx u) ++ px u) H1 → va_D A ((wr ++ rx u) ++ px u) → va_S A s.heap H1 locs1 → W p l e R s m args below meth c H1 locs1 (cells + mc) (slots + ms) Q (F0 m (pc + 3) ls (.int r :: rest))) :
    W p l e R s m args below meth c H locs cells slots Q (F0 m pc ls st0) := by
  refine XM.backP (rest := rest) hXk hM hK hP hD hS hA hX isC isR hC hR hn1 hn2 hdis (fun Pc Qc hMet hbl hPc => ?_) (fun r u H1 locs1 h1 h2 h3 h4 => ?_)
  · exact vx_runSW (As := As) (rest := rest) CF hMet hcw ⟨hbl, hPc⟩ rfl hn hsize hst (lv_room hW) hdg hf
  · exact kk r u H1 locs1 h1 h2 h3 h4
end XTailCallsW
set_option maxHeartbeats 4000000 in
set_option maxRecDepth 100000 in
theorem kLaw_open (l : Launch) (dC : Nat → ClassId) (dI : Nat → Nat → Nat) (kI kJ kZ : ClassId) (x0 : Nat) (qc : Nat) (qb : Nat) (qs : Nat) (qk : Nat) (r0 : Nat) (lu : Int32) (lr : Int32) (qb1 : Nat) (nA : Nat) (bal : Nat → Int32) (x : Int32) (w0 : Nat) (fo : Nat → Int64) (hnA : nA ≤ 24) (hxa : ¬ x < 0) :
    XM stY l yLaw_open wLaw_open { frames := 3, cells := 0, slots := 0, locals := 64 } (dC, dI) xCl (x_T kI kJ kZ) [(x0, .inr (5, [.ref qc, .ref qb, .ref qs, .ref qk, .ref r0, .int lu, .int lr])), (qb, .inr (0, [.ref qb1, .int (nI nA)])), (qb1, .inl (kI, 24, .inl bal)), (w0, .inl (kJ, 1, .inr (.inl fo)))] [.ref x0, .int x, .ref w0] 0 0 x_eI (fun (r : Int32) (u : (Nat → Int32) × Nat × (Nat → Int64)) => (r = 0) ∧ (u.1 = if nA < 24 ∧ (l_sum bal nA).toInt64 + x.toInt64 ≤ 2147483647 then upd bal nA x else bal) ∧ (u.2.1 = if nA < 24 ∧ (l_sum bal nA).toInt64 + x.toInt64 ≤ 2147483647 then nA + 1 else nA) ∧ (u.2.2 = vp_updL fo 0 (Int32.toInt64 (if nA < 24 ∧ (l_sum bal nA).toInt64 + x.toInt64 ≤ 2147483647 then nI nA else -1)))) (fun (u : (Nat → Int32) × Nat × (Nat → Int64)) => [(x0, .inr (5, [.ref qc, .ref qb, .ref qs, .ref qk, .ref r0, .int lu, .int lr])), (qb, .inr (0, [.ref qb1, .int (nI u.2.1)])), (qb1, .inl (kI, 24, .inl u.1)), (w0, .inl (kJ, 1, .inr (.inl u.2.2)))]) := by
  refine XM.ofIW (cc := cLaw_open) (maxL := 4) (hh := [(0, 9, 12, 13)]) (by decide) rfl (Nat.le_of_ble_eq_true rfl) ?_
  intro p e s m below meth c A Q hx hb hr hml hown hts hlocks hin htab hA hK hP hD hX hS ls hl hret
  have hl : lv_has ls 4 [(0, .ref x0), (1, .int x), (2, .ref w0)] := hl
  refine lv_aload_n hx hb dLaw_open_0 rfl (lv_at hl 2 rfl) ?_
  refine lv_iconst (v := 0) hx hb dLaw_open_1 (by decide) ?_
  refine lv_aload_n hx hb dLaw_open_2 rfl (lv_at hl 0 rfl) ?_
  refine lv_iload_n hx hb dLaw_open_3 rfl (lv_at hl 1 rfl) ?_
  refine XM.callVi (As := [.int x]) (rest := [.int 0, .ref w0]) (wr := [(w0, .inl (kJ, 1, .inr (.inl fo)))]) stX_ok ⟨hx, hb, hml, hown, hts⟩ (kLed_open l dC dI kI kJ kZ x0 qc qb qs qk r0 lu lr qb1 nA bal x (by first | assumption | omega) (by first | assumption | omega)) (cwV 1 hts (x_gV gw266 gw267 gw268 gw36 gw269) rfl rfl rfl (by decide +kernel) ⟨Nat.le_of_ble_eq_true rfl, Nat.le_of_ble_eq_true rfl⟩) hK hP hD hS hA hX.1 [0, 1, 2] [3] rfl rfl (by decide) (by decide) (by decide) rfl rfl rfl rfl hl.1 (Nat.le_of_ble_eq_true rfl) dLaw_open_4 ⟨Nat.le_of_ble_eq_true rfl, Nat.le_of_ble_eq_true rfl⟩ (fun r_2 u_1 H locs hw hP hD hS => ?_)
  obtain ⟨bal2_3, nA2_4⟩ := u_1
  try dsimp only at hw
  obtain ⟨rfl, rfl, rfl⟩ := hw
  have hP : va_P (dC, dI) xCl [(w0, .inl (kJ, 1, .inr (.inl fo))), (x0, .inr (5, [.ref qc, .ref qb, .ref qs, .ref qk, .ref r0, .int lu, .int lr])), (qb, .inr (0, [.ref qb1, .int (nI (if nA < 24 ∧ (l_sum bal nA).toInt64 + x.toInt64 ≤ 2147483647 then nA + 1 else nA))])), (qb1, .inl (kI, 24, .inl (if nA < 24 ∧ (l_sum bal nA).toInt64 + x.toInt64 ≤ 2147483647 then upd bal nA x else bal)))] H := hP
  have hD : va_D A [(w0, .inl (kJ, 1, .inr (.inl fo))), (x0, .inr (5, [.ref qc, .ref qb, .ref qs, .ref qk, .ref r0, .int lu, .int lr])), (qb, .inr (0, [.ref qb1, .int (nI (if nA < 24 ∧ (l_sum bal nA).toInt64 + x.toInt64 ≤ 2147483647 then nA + 1 else nA))])), (qb1, .inl (kI, 24, .inl (if nA < 24 ∧ (l_sum bal nA).toInt64 + x.toInt64 ≤ 2147483647 then upd bal nA x else bal)))] := hD
  refine lv_i2l (v := (if nA < 24 ∧ (l_sum bal nA).toInt64 + x.toInt64 ≤ 2147483647 then nI nA else -1).toInt64) hx hb dLaw_open_7 rfl ?_
  refine x_last (j := 0) hx hb hK hP hD hS 0 1 rfl rfl rfl (by omega) (by omega) dLaw_open_8 (fun H locs hP hD hS => ?_)
  have hP : va_P (dC, dI) xCl [(w0, .inl (kJ, 1, .inr (.inl (vp_updL fo 0 (if nA < 24 ∧ (l_sum bal nA).toInt64 + x.toInt64 ≤ 2147483647 then nI nA else -1).toInt64)))), (x0, .inr (5, [.ref qc, .ref qb, .ref qs, .ref qk, .ref r0, .int lu, .int lr])), (qb, .inr (0, [.ref qb1, .int (nI (if nA < 24 ∧ (l_sum bal nA).toInt64 + x.toInt64 ≤ 2147483647 then nA + 1 else nA))])), (qb1, .inl (kI, 24, .inl (if nA < 24 ∧ (l_sum bal nA).toInt64 + x.toInt64 ≤ 2147483647 then upd bal nA x else bal)))] H := hP
  have hD : va_D A [(w0, .inl (kJ, 1, .inr (.inl (vp_updL fo 0 (if nA < 24 ∧ (l_sum bal nA).toInt64 + x.toInt64 ≤ 2147483647 then nI nA else -1).toInt64)))), (x0, .inr (5, [.ref qc, .ref qb, .ref qs, .ref qk, .ref r0, .int lu, .int lr])), (qb, .inr (0, [.ref qb1, .int (nI (if nA < 24 ∧ (l_sum bal nA).toInt64 + x.toInt64 ≤ 2147483647 then nA + 1 else nA))])), (qb1, .inl (kI, 24, .inl (if nA < 24 ∧ (l_sum bal nA).toInt64 + x.toInt64 ≤ 2147483647 then upd bal nA x else bal)))] := hD
  refine lv_goto (tgt := 15) hx hb dLaw_open_9 (by decide) ?_
  refine lv_iconst (v := 0) hx hb dLaw_open_15 (by decide) ?_
  exact hret 0 ((if nA < 24 ∧ (l_sum bal nA).toInt64 + x.toInt64 ≤ 2147483647 then upd bal nA x else bal, if nA < 24 ∧ (l_sum bal nA).toInt64 + x.toInt64 ≤ 2147483647 then nA + 1 else nA, vp_updL fo 0 (if nA < 24 ∧ (l_sum bal nA).toInt64 + x.toInt64 ≤ 2147483647 then nI nA else -1).toInt64)) _ _ _ (⟨rfl, rfl, rfl, rfl⟩) (hP.sub [1, 2, 3, 0] rfl) (hD.sub [1, 2, 3, 0] (by decide) rfl) hS dLaw_open_16

set_option maxHeartbeats 4000000 in
set_option maxRecDepth 100000 in
theorem kLaw_openX (l : Launch) (dC : Nat → ClassId) (dI : Nat → Nat → Nat) (kI kJ kZ : ClassId) (x0 : Nat) (qc : Nat) (qb : Nat) (qs : Nat) (qk : Nat) (r0 : Nat) (lu : Int32) (lr : Int32) (x : Int32) (w0 : Nat) (fo : Nat → Int64) (hxa : x < 0) (hl0 : l.stackTraces = false) :
    XM stY l yLaw_open wLaw_open { frames := 7, cells := 1, slots := 6, locals := 111 } (dC, dI) xCl (x_T kI kJ kZ) [(x0, .inr (5, [.ref qc, .ref qb, .ref qs, .ref qk, .ref r0, .int lu, .int lr])), (w0, .inl (kJ, 1, .inr (.inl fo)))] [.ref x0, .int x, .ref w0] 1 6 x_eI (fun (r : Int32) (u : Unit) => r = 1) (fun (u : Unit) => [(x0, .inr (5, [.ref qc, .ref qb, .ref qs, .ref qk, .ref r0, .int lu, .int lr])), (w0, .inl (kJ, 1, .inr (.inl fo)))]) := by
  refine XM.ofIW (cc := cLaw_open) (maxL := 4) (hh := [(0, 9, 12, 13)]) (by decide) rfl (Nat.le_of_ble_eq_true rfl) ?_
  intro p e s m below meth c A Q hx hb hr hml hown hts hlocks hin htab hA hK hP hD hX hS ls hl hret
  have hl : lv_has ls 4 [(0, .ref x0), (1, .int x), (2, .ref w0)] := hl
  refine lv_aload_n hx hb dLaw_open_0 rfl (lv_at hl 2 rfl) ?_
  refine lv_iconst (v := 0) hx hb dLaw_open_1 (by decide) ?_
  refine lv_aload_n hx hb dLaw_open_2 rfl (lv_at hl 0 rfl) ?_
  refine lv_iload_n hx hb dLaw_open_3 rfl (lv_at hl 1 rfl) ?_
  refine XT.callV (As := [.int x]) (rest := [.int 0, .ref w0]) stY_ok ⟨hx, hb, hml, hown, hts⟩ (kT_open l hl0 dC dI kI kJ kZ x0 qc qb qs qk r0 lu lr x (by first | assumption | omega)) (cwV 1 hts (x_gV gw266 gw267 gw268 gw36 gw269) rfl rfl rfl (by decide +kernel) ⟨Nat.le_of_ble_eq_true rfl, Nat.le_of_ble_eq_true rfl⟩) hK hP hD hS hA hX [0] rfl (by decide) rfl rfl rfl rfl hl.1 (Nat.le_of_ble_eq_true rfl) dLaw_open_4 ⟨Nat.le_of_ble_eq_true rfl, Nat.le_of_ble_eq_true rfl⟩ (fun q9 ce H locs hP hS hce hcv hcl => ?_)
  refine vx_catch (own := RLaw) (name := nIAE) (E := nIAE) hown [] ⟨0, 9, 12, 13⟩ [] (htab.trans rfl) (fun z9 hz9 => nomatch hz9) (by decide) (by decide) (hts (.classLink RLaw 13 nIAE) (List.mem_cons_of_mem _ gw265)) (va_Nw.use rfl (hX.2.1 (.castable nIAE nIAE) (by decide))) hce hcv hcl ?_
  refine lv_astore_n (lv' := [(3, .ref q9), (0, .ref x0), (1, .int x), (2, .ref w0)]) hx hb dLaw_open_12 rfl hl (by decide) rfl (fun ls hl => ?_)
  refine lv_iconst (v := 1) hx hb dLaw_open_13 (by decide) ?_
  exact hret 1 (()) _ _ _ (rfl) (hP.sub [0, 1] rfl) (hD.sub [0, 1] (by decide) rfl) hS dLaw_open_14

set_option maxHeartbeats 4000000 in
set_option maxRecDepth 100000 in
theorem kLaw_code (l : Launch) (dC : Nat → ClassId) (dI : Nat → Nat → Nat) (kI kJ kZ : ClassId) (x0 : Nat) (qc : Nat) (qb : Nat) (qs : Nat) (qk : Nat) (r0 : Nat) (lu : Int32) (lr : Int32) (qb1 : Nat) (nA : Nat) (qc1 : Nat) (qc2 : Nat) (qc3 : Nat) (cw : Nat → Int32) (lc : Nat → Nat) (z : Nat → Bool) (a : Nat) (w : Int32) (w0 : Nat) (fo : Nat → Int64) (hnA : nA ≤ 24) (ha : a < nA) (hln : ∀ j, j < 24 → lc j ≤ 160) (hz : z a = false) :
    XM stY l yLaw_code wLaw_code { frames := 4, cells := 0, slots := 0, locals := 85 } (dC, dI) xCl (x_T kI kJ kZ) [(x0, .inr (5, [.ref qc, .ref qb, .ref qs, .ref qk, .ref r0, .int lu, .int lr])), (qb, .inr (0, [.ref qb1, .int (nI nA)])), (qc, .inr (1, [.ref qc1, .ref qc2, .ref qc3])), (qc1, .inl (kI, 3840, .inl cw)), (qc2, .inl (kI, 24, .inl (fun j => nI (lc j)))), (qc3, .inl (kZ, 24, .inl (fun j => x_b (z j)))), (w0, .inl (kJ, 1, .inr (.inl fo)))] [.ref x0, .int (nI a), .int w, .ref w0] 0 0 x_eI (fun (r : Int32) (u : (Nat → Int32) × (Nat → Nat) × (Nat → Int64)) => (r = 0) ∧ (u.1 = if lc a < 160 then upd cw (a * 160 + lc a) w else cw) ∧ (u.2.1 = if lc a < 160 then va_up lc a (lc a + 1) else lc) ∧ (u.2.2 = vp_updL fo 0 (Int32.toInt64 (if lc a < 160 then nI (lc a + 1) else -1)))) (fun (u : (Nat → Int32) × (Nat → Nat) × (Nat → Int64)) => [(x0, .inr (5, [.ref qc, .ref qb, .ref qs, .ref qk, .ref r0, .int lu, .int lr])), (qb, .inr (0, [.ref qb1, .int (nI nA)])), (qc, .inr (1, [.ref qc1, .ref qc2, .ref qc3])), (qc1, .inl (kI, 3840, .inl u.1)), (qc2, .inl (kI, 24, .inl (fun j => nI (u.2.1 j)))), (qc3, .inl (kZ, 24, .inl (fun j => x_b (z j)))), (w0, .inl (kJ, 1, .inr (.inl u.2.2)))]) := by
  refine XM.ofIW (cc := cLaw_code) (maxL := 5) (hh := [(0, 10, 13, 19), (0, 10, 17, 21)]) (by decide) rfl (Nat.le_of_ble_eq_true rfl) ?_
  intro p e s m below meth c A Q hx hb hr hml hown hts hlocks hin htab hA hK hP hD hX hS ls hl hret
  have hl : lv_has ls 5 [(0, .ref x0), (1, .int (nI a)), (2, .int w), (3, .ref w0)] := hl
  refine lv_aload_n hx hb dLaw_code_0 rfl (lv_at hl 3 rfl) ?_
  refine lv_iconst (v := 0) hx hb dLaw_code_1 (by decide) ?_
  refine lv_aload_n hx hb dLaw_code_2 rfl (lv_at hl 0 rfl) ?_
  refine lv_iload_n hx hb dLaw_code_3 rfl (lv_at hl 1 rfl) ?_
  refine lv_iload_n hx hb dLaw_code_4 rfl (lv_at hl 2 rfl) ?_
  refine XM.callVi (As := [.int (nI a), .int w]) (rest := [.int 0, .ref w0]) (wr := [(w0, .inl (kJ, 1, .inr (.inl fo)))]) stX_ok ⟨hx, hb, hml, hown, hts⟩ (kLed_code l dC dI kI kJ kZ x0 qc qb qs qk r0 lu lr qb1 nA qc1 qc2 qc3 cw lc z a w (by first | assumption | omega) (by first | assumption | omega) (by first | assumption | omega) (by first | assumption | omega)) (cwV 2 hts (x_gV gw349 gw350 gw351 gw36 gw352) rfl rfl rfl (by decide +kernel) ⟨Nat.le_of_ble_eq_true rfl, Nat.le_of_ble_eq_true rfl⟩) hK hP hD hS hA hX.1 [0, 1, 2, 3, 4, 5] [6] rfl rfl (by decide) (by decide) (by decide) rfl rfl rfl rfl hl.1 (Nat.le_of_ble_eq_true rfl) dLaw_code_5 ⟨Nat.le_of_ble_eq_true rfl, Nat.le_of_ble_eq_true rfl⟩ (fun r_2 u_1 H locs hw hP hD hS => ?_)
  obtain ⟨cw2_3, lc2_4⟩ := u_1
  try dsimp only at hw
  obtain ⟨rfl, rfl, rfl⟩ := hw
  have hP : va_P (dC, dI) xCl [(w0, .inl (kJ, 1, .inr (.inl fo))), (x0, .inr (5, [.ref qc, .ref qb, .ref qs, .ref qk, .ref r0, .int lu, .int lr])), (qb, .inr (0, [.ref qb1, .int (nI nA)])), (qc, .inr (1, [.ref qc1, .ref qc2, .ref qc3])), (qc1, .inl (kI, 3840, .inl (if lc a < 160 then upd cw (a * 160 + lc a) w else cw))), (qc2, .inl (kI, 24, .inl (fun j => nI ((if lc a < 160 then va_up lc a (lc a + 1) else lc) j)))), (qc3, .inl (kZ, 24, .inl (fun j => x_b (z j))))] H := hP
  have hD : va_D A [(w0, .inl (kJ, 1, .inr (.inl fo))), (x0, .inr (5, [.ref qc, .ref qb, .ref qs, .ref qk, .ref r0, .int lu, .int lr])), (qb, .inr (0, [.ref qb1, .int (nI nA)])), (qc, .inr (1, [.ref qc1, .ref qc2, .ref qc3])), (qc1, .inl (kI, 3840, .inl (if lc a < 160 then upd cw (a * 160 + lc a) w else cw))), (qc2, .inl (kI, 24, .inl (fun j => nI ((if lc a < 160 then va_up lc a (lc a + 1) else lc) j)))), (qc3, .inl (kZ, 24, .inl (fun j => x_b (z j))))] := hD
  refine lv_i2l (v := (if lc a < 160 then nI (lc a + 1) else -1).toInt64) hx hb dLaw_code_8 rfl ?_
  refine x_last (j := 0) hx hb hK hP hD hS 0 1 rfl rfl rfl (by omega) (by omega) dLaw_code_9 (fun H locs hP hD hS => ?_)
  have hP : va_P (dC, dI) xCl [(w0, .inl (kJ, 1, .inr (.inl (vp_updL fo 0 (if lc a < 160 then nI (lc a + 1) else -1).toInt64)))), (x0, .inr (5, [.ref qc, .ref qb, .ref qs, .ref qk, .ref r0, .int lu, .int lr])), (qb, .inr (0, [.ref qb1, .int (nI nA)])), (qc, .inr (1, [.ref qc1, .ref qc2, .ref qc3])), (qc1, .inl (kI, 3840, .inl (if lc a < 160 then upd cw (a * 160 + lc a) w else cw))), (qc2, .inl (kI, 24, .inl (fun j => nI ((if lc a < 160 then va_up lc a (lc a + 1) else lc) j)))), (qc3, .inl (kZ, 24, .inl (fun j => x_b (z j))))] H := hP
  have hD : va_D A [(w0, .inl (kJ, 1, .inr (.inl (vp_updL fo 0 (if lc a < 160 then nI (lc a + 1) else -1).toInt64)))), (x0, .inr (5, [.ref qc, .ref qb, .ref qs, .ref qk, .ref r0, .int lu, .int lr])), (qb, .inr (0, [.ref qb1, .int (nI nA)])), (qc, .inr (1, [.ref qc1, .ref qc2, .ref qc3])), (qc1, .inl (kI, 3840, .inl (if lc a < 160 then upd cw (a * 160 + lc a) w else cw))), (qc2, .inl (kI, 24, .inl (fun j => nI ((if lc a < 160 then va_up lc a (lc a + 1) else lc) j)))), (qc3, .inl (kZ, 24, .inl (fun j => x_b (z j))))] := hD
  refine lv_goto (tgt := 21) hx hb dLaw_code_10 (by decide) ?_
  refine lv_iconst (v := 0) hx hb dLaw_code_21 (by decide) ?_
  exact hret 0 ((if lc a < 160 then upd cw (a * 160 + lc a) w else cw, if lc a < 160 then va_up lc a (lc a + 1) else lc, vp_updL fo 0 (if lc a < 160 then nI (lc a + 1) else -1).toInt64)) _ _ _ (⟨rfl, rfl, rfl, rfl⟩) (hP.sub [1, 2, 3, 4, 5, 6, 0] rfl) (hD.sub [1, 2, 3, 4, 5, 6, 0] (by decide) rfl) hS dLaw_code_22

set_option maxHeartbeats 4000000 in
set_option maxRecDepth 100000 in
theorem kLaw_codeX (l : Launch) (dC : Nat → ClassId) (dI : Nat → Nat → Nat) (kI kJ kZ : ClassId) (x0 : Nat) (qc : Nat) (qb : Nat) (qs : Nat) (qk : Nat) (r0 : Nat) (lu : Int32) (lr : Int32) (qb1 : Nat) (nA : Nat) (x : Int32) (w : Int32) (w0 : Nat) (fo : Nat → Int64) (hnA : nA ≤ 24) (hxa : xHas nA x = false) (hl0 : l.stackTraces = false) :
    XM stY l yLaw_code wLaw_code { frames := 8, cells := 1, slots := 6, locals := 133 } (dC, dI) xCl (x_T kI kJ kZ) [(x0, .inr (5, [.ref qc, .ref qb, .ref qs, .ref qk, .ref r0, .int lu, .int lr])), (qb, .inr (0, [.ref qb1, .int (nI nA)])), (w0, .inl (kJ, 1, .inr (.inl fo)))] [.ref x0, .int x, .int w, .ref w0] 1 6 x_eI (fun (r : Int32) (u : Unit) => r = 1) (fun (u : Unit) => [(x0, .inr (5, [.ref qc, .ref qb, .ref qs, .ref qk, .ref r0, .int lu, .int lr])), (qb, .inr (0, [.ref qb1, .int (nI nA)])), (w0, .inl (kJ, 1, .inr (.inl fo)))]) := by
  refine XM.ofIW (cc := cLaw_code) (maxL := 5) (hh := [(0, 10, 13, 19), (0, 10, 17, 21)]) (by decide) rfl (Nat.le_of_ble_eq_true rfl) ?_
  intro p e s m below meth c A Q hx hb hr hml hown hts hlocks hin htab hA hK hP hD hX hS ls hl hret
  have hl : lv_has ls 5 [(0, .ref x0), (1, .int x), (2, .int w), (3, .ref w0)] := hl
  refine lv_aload_n hx hb dLaw_code_0 rfl (lv_at hl 3 rfl) ?_
  refine lv_iconst (v := 0) hx hb dLaw_code_1 (by decide) ?_
  refine lv_aload_n hx hb dLaw_code_2 rfl (lv_at hl 0 rfl) ?_
  refine lv_iload_n hx hb dLaw_code_3 rfl (lv_at hl 1 rfl) ?_
  refine lv_iload_n hx hb dLaw_code_4 rfl (lv_at hl 2 rfl) ?_
  refine XT.callV (As := [.int x, .int w]) (rest := [.int 0, .ref w0]) stY_ok ⟨hx, hb, hml, hown, hts⟩ (kT_code1 l hl0 dC dI kI kJ kZ x0 qc qb qs qk r0 lu lr qb1 nA x w (by first | assumption | omega) (by first | assumption | omega)) (cwV 2 hts (x_gV gw349 gw350 gw351 gw36 gw352) rfl rfl rfl (by decide +kernel) ⟨Nat.le_of_ble_eq_true rfl, Nat.le_of_ble_eq_true rfl⟩) hK hP hD hS hA hX [0, 1] rfl (by decide) rfl rfl rfl rfl hl.1 (Nat.le_of_ble_eq_true rfl) dLaw_code_5 ⟨Nat.le_of_ble_eq_true rfl, Nat.le_of_ble_eq_true rfl⟩ (fun q9 ce H locs hP hS hce hcv hcl => ?_)
  refine vx_catch (own := RLaw) (name := nIOB) (E := nIOB) hown [] ⟨0, 10, 13, 19⟩ [⟨0, 10, 17, 21⟩] (htab.trans rfl) (fun z9 hz9 => nomatch hz9) (by decide) (by decide) (hts (.classLink RLaw 19 nIOB) (List.mem_cons_of_mem _ gw347)) (va_Nw.use rfl (hX.2.1 (.castable nIOB nIOB) (by decide))) hce hcv hcl ?_
  refine lv_astore (lv' := [(4, .ref q9), (0, .ref x0), (1, .int x), (2, .int w), (3, .ref w0)]) hx hb dLaw_code_13 hl (by decide) rfl (fun ls hl => ?_)
  refine lv_iconst (v := 1) hx hb dLaw_code_15 (by decide) ?_
  exact hret 1 (()) _ _ _ (rfl) (hP.sub [0, 1, 2] rfl) (hD.sub [0, 1, 2] (by decide) rfl) hS dLaw_code_16

set_option maxHeartbeats 4000000 in
set_option maxRecDepth 100000 in
theorem kLaw_codeY (l : Launch) (dC : Nat → ClassId) (dI : Nat → Nat → Nat) (kI kJ kZ : ClassId) (x0 : Nat) (qc : Nat) (qb : Nat) (qs : Nat) (qk : Nat) (r0 : Nat) (lu : Int32) (lr : Int32) (qb1 : Nat) (nA : Nat) (qc1 : Nat) (qc2 : Nat) (qc3 : Nat) (cw : Nat → Int32) (lc : Nat → Nat) (z : Nat → Bool) (a : Nat) (w : Int32) (w0 : Nat) (fo : Nat → Int64) (hnA : nA ≤ 24) (ha : a < nA) (hz : z a = true) (hl0 : l.stackTraces = false) :
    XM stY l yLaw_code wLaw_code { frames := 8, cells := 1, slots := 6, locals := 133 } (dC, dI) xCl (x_T kI kJ kZ) [(x0, .inr (5, [.ref qc, .ref qb, .ref qs, .ref qk, .ref r0, .int lu, .int lr])), (qb, .inr (0, [.ref qb1, .int (nI nA)])), (qc, .inr (1, [.ref qc1, .ref qc2, .ref qc3])), (qc1, .inl (kI, 3840, .inl cw)), (qc2, .inl (kI, 24, .inl (fun j => nI (lc j)))), (qc3, .inl (kZ, 24, .inl (fun j => x_b (z j)))), (w0, .inl (kJ, 1, .inr (.inl fo)))] [.ref x0, .int (nI a), .int w, .ref w0] 1 6 x_eI (fun (r : Int32) (u : Unit) => r = 2) (fun (u : Unit) => [(x0, .inr (5, [.ref qc, .ref qb, .ref qs, .ref qk, .ref r0, .int lu, .int lr])), (qb, .inr (0, [.ref qb1, .int (nI nA)])), (qc, .inr (1, [.ref qc1, .ref qc2, .ref qc3])), (qc1, .inl (kI, 3840, .inl cw)), (qc2, .inl (kI, 24, .inl (fun j => nI (lc j)))), (qc3, .inl (kZ, 24, .inl (fun j => x_b (z j)))), (w0, .inl (kJ, 1, .inr (.inl fo)))]) := by
  refine XM.ofIW (cc := cLaw_code) (maxL := 5) (hh := [(0, 10, 13, 19), (0, 10, 17, 21)]) (by decide) rfl (Nat.le_of_ble_eq_true rfl) ?_
  intro p e s m below meth c A Q hx hb hr hml hown hts hlocks hin htab hA hK hP hD hX hS ls hl hret
  have hl : lv_has ls 5 [(0, .ref x0), (1, .int (nI a)), (2, .int w), (3, .ref w0)] := hl
  refine lv_aload_n hx hb dLaw_code_0 rfl (lv_at hl 3 rfl) ?_
  refine lv_iconst (v := 0) hx hb dLaw_code_1 (by decide) ?_
  refine lv_aload_n hx hb dLaw_code_2 rfl (lv_at hl 0 rfl) ?_
  refine lv_iload_n hx hb dLaw_code_3 rfl (lv_at hl 1 rfl) ?_
  refine lv_iload_n hx hb dLaw_code_4 rfl (lv_at hl 2 rfl) ?_
  refine XT.callV (As := [.int (nI a), .int w]) (rest := [.int 0, .ref w0]) stY_ok ⟨hx, hb, hml, hown, hts⟩ (kT_code2 l hl0 dC dI kI kJ kZ x0 qc qb qs qk r0 lu lr qb1 nA qc1 qc2 qc3 cw lc z a w (by first | assumption | omega) (by first | assumption | omega) (by first | assumption | omega)) (cwV 2 hts (x_gV gw349 gw350 gw351 gw36 gw352) rfl rfl rfl (by decide +kernel) ⟨Nat.le_of_ble_eq_true rfl, Nat.le_of_ble_eq_true rfl⟩) hK hP hD hS hA hX [0, 1, 2, 3, 4, 5] rfl (by decide) rfl rfl rfl rfl hl.1 (Nat.le_of_ble_eq_true rfl) dLaw_code_5 ⟨Nat.le_of_ble_eq_true rfl, Nat.le_of_ble_eq_true rfl⟩ (fun q9 ce H locs hP hS hce hcv hcl => ?_)
  refine vx_catch (own := RLaw) (name := nISE) (E := nISE) hown [⟨0, 10, 13, 19⟩] ⟨0, 10, 17, 21⟩ [] (htab.trans rfl) (fun z9 hz9 => by rw [List.mem_singleton.mp hz9]; exact Or.inr ⟨(by decide : 19 ≠ 0), nIOB, (hts (.classLink RLaw 19 nIOB) (List.mem_cons_of_mem _ gw347)), hX.2.2.2.2.2.1⟩) (by decide) (by decide) (hts (.classLink RLaw 21 nISE) (List.mem_cons_of_mem _ gw348)) (va_Nw.use rfl (hX.2.1 (.castable nISE nISE) (by decide))) hce hcv hcl ?_
  refine lv_astore (lv' := [(4, .ref q9), (0, .ref x0), (1, .int (nI a)), (2, .int w), (3, .ref w0)]) hx hb dLaw_code_17 hl (by decide) rfl (fun ls hl => ?_)
  refine lv_iconst (v := 2) hx hb dLaw_code_19 (by decide) ?_
  exact hret 2 (()) _ _ _ (rfl) (hP.sub [0, 1, 2, 3, 4, 5, 6] rfl) (hD.sub [0, 1, 2, 3, 4, 5, 6] (by decide) rfl) hS dLaw_code_20

set_option maxHeartbeats 4000000 in
set_option maxRecDepth 100000 in
theorem kLaw_seal (l : Launch) (dC : Nat → ClassId) (dI : Nat → Nat → Nat) (kI kJ kZ : ClassId) (x0 : Nat) (qc : Nat) (qb : Nat) (qs : Nat) (qk : Nat) (r0 : Nat) (lu : Int32) (lr : Int32) (qb1 : Nat) (nA : Nat) (qc1 : Nat) (qc2 : Nat) (qc3 : Nat) (cw : Nat → Int32) (lc : Nat → Nat) (z : Nat → Bool) (a : Nat) (w0 : Nat) (fo : Nat → Int64) (hnA : nA ≤ 24) (ha : a < nA) (hln : ∀ j, j < 24 → lc j ≤ 160) (hz : z a = false) :
    XM stY l yLaw_seal wLaw_seal { frames := 4, cells := 0, slots := 0, locals := 87 } (dC, dI) xCl (x_T kI kJ kZ) [(x0, .inr (5, [.ref qc, .ref qb, .ref qs, .ref qk, .ref r0, .int lu, .int lr])), (qb, .inr (0, [.ref qb1, .int (nI nA)])), (qc, .inr (1, [.ref qc1, .ref qc2, .ref qc3])), (qc1, .inl (kI, 3840, .inl cw)), (qc2, .inl (kI, 24, .inl (fun j => nI (lc j)))), (qc3, .inl (kZ, 24, .inl (fun j => x_b (z j)))), (w0, .inl (kJ, 1, .inr (.inl fo)))] [.ref x0, .int (nI a), .ref w0] 0 0 x_eI (fun (r : Int32) (u : (Nat → Nat) × (Nat → Bool) × (Nat → Int64)) => (r = 0) ∧ (u.1 = match wBad cw a (lc a) 0 (lc a) with | none => lc | some _ => va_up lc a 0) ∧ (u.2.1 = match wBad cw a (lc a) 0 (lc a) with | none => va_up z a true | some _ => z) ∧ (u.2.2 = vp_updL fo 0 (Int32.toInt64 (match wBad cw a (lc a) 0 (lc a) with | none => -1 | some k => nI k)))) (fun (u : (Nat → Nat) × (Nat → Bool) × (Nat → Int64)) => [(x0, .inr (5, [.ref qc, .ref qb, .ref qs, .ref qk, .ref r0, .int lu, .int lr])), (qb, .inr (0, [.ref qb1, .int (nI nA)])), (qc, .inr (1, [.ref qc1, .ref qc2, .ref qc3])), (qc1, .inl (kI, 3840, .inl cw)), (qc2, .inl (kI, 24, .inl (fun j => nI (u.1 j)))), (qc3, .inl (kZ, 24, .inl (fun j => x_b (u.2.1 j)))), (w0, .inl (kJ, 1, .inr (.inl u.2.2)))]) := by
  refine XM.ofIW (cc := cLaw_seal) (maxL := 4) (hh := [(0, 9, 12, 19), (0, 9, 15, 21)]) (by decide) rfl (Nat.le_of_ble_eq_true rfl) ?_
  intro p e s m below meth c A Q hx hb hr hml hown hts hlocks hin htab hA hK hP hD hX hS ls hl hret
  have hl : lv_has ls 4 [(0, .ref x0), (1, .int (nI a)), (2, .ref w0)] := hl
  refine lv_aload_n hx hb dLaw_seal_0 rfl (lv_at hl 2 rfl) ?_
  refine lv_iconst (v := 0) hx hb dLaw_seal_1 (by decide) ?_
  refine lv_aload_n hx hb dLaw_seal_2 rfl (lv_at hl 0 rfl) ?_
  refine lv_iload_n hx hb dLaw_seal_3 rfl (lv_at hl 1 rfl) ?_
  refine XM.callVi (As := [.int (nI a)]) (rest := [.int 0, .ref w0]) (wr := [(w0, .inl (kJ, 1, .inr (.inl fo)))]) stX_ok ⟨hx, hb, hml, hown, hts⟩ (kLed_seal l dC dI kI kJ kZ x0 qc qb qs qk r0 lu lr qb1 nA qc1 qc2 qc3 cw lc z a (by first | assumption | omega) (by first | assumption | omega) (by first | assumption | omega) (by first | assumption | omega)) (cwV 1 hts (x_gV gw411 gw412 gw413 gw36 gw414) rfl rfl rfl (by decide +kernel) ⟨Nat.le_of_ble_eq_true rfl, Nat.le_of_ble_eq_true rfl⟩) hK hP hD hS hA hX.1 [0, 1, 2, 3, 4, 5] [6] rfl rfl (by decide) (by decide) (by decide) rfl rfl rfl rfl hl.1 (Nat.le_of_ble_eq_true rfl) dLaw_seal_4 ⟨Nat.le_of_ble_eq_true rfl, Nat.le_of_ble_eq_true rfl⟩ (fun r_2 u_1 H locs hw hP hD hS => ?_)
  obtain ⟨lc2_3, z2_4⟩ := u_1
  try dsimp only at hw
  obtain ⟨rfl, rfl, rfl⟩ := hw
  have hP : va_P (dC, dI) xCl [(w0, .inl (kJ, 1, .inr (.inl fo))), (x0, .inr (5, [.ref qc, .ref qb, .ref qs, .ref qk, .ref r0, .int lu, .int lr])), (qb, .inr (0, [.ref qb1, .int (nI nA)])), (qc, .inr (1, [.ref qc1, .ref qc2, .ref qc3])), (qc1, .inl (kI, 3840, .inl cw)), (qc2, .inl (kI, 24, .inl (fun j => nI ((match wBad cw a (lc a) 0 (lc a) with | none => lc | some _ => va_up lc a 0) j)))), (qc3, .inl (kZ, 24, .inl (fun j => x_b ((match wBad cw a (lc a) 0 (lc a) with | none => va_up z a true | some _ => z) j))))] H := hP
  have hD : va_D A [(w0, .inl (kJ, 1, .inr (.inl fo))), (x0, .inr (5, [.ref qc, .ref qb, .ref qs, .ref qk, .ref r0, .int lu, .int lr])), (qb, .inr (0, [.ref qb1, .int (nI nA)])), (qc, .inr (1, [.ref qc1, .ref qc2, .ref qc3])), (qc1, .inl (kI, 3840, .inl cw)), (qc2, .inl (kI, 24, .inl (fun j => nI ((match wBad cw a (lc a) 0 (lc a) with | none => lc | some _ => va_up lc a 0) j)))), (qc3, .inl (kZ, 24, .inl (fun j => x_b ((match wBad cw a (lc a) 0 (lc a) with | none => va_up z a true | some _ => z) j))))] := hD
  refine lv_i2l (v := (match wBad cw a (lc a) 0 (lc a) with | none => -1 | some k => nI k).toInt64) hx hb dLaw_seal_7 rfl ?_
  refine x_last (j := 0) hx hb hK hP hD hS 0 1 rfl rfl rfl (by omega) (by omega) dLaw_seal_8 (fun H locs hP hD hS => ?_)
  have hP : va_P (dC, dI) xCl [(w0, .inl (kJ, 1, .inr (.inl (vp_updL fo 0 (match wBad cw a (lc a) 0 (lc a) with | none => -1 | some k => nI k).toInt64)))), (x0, .inr (5, [.ref qc, .ref qb, .ref qs, .ref qk, .ref r0, .int lu, .int lr])), (qb, .inr (0, [.ref qb1, .int (nI nA)])), (qc, .inr (1, [.ref qc1, .ref qc2, .ref qc3])), (qc1, .inl (kI, 3840, .inl cw)), (qc2, .inl (kI, 24, .inl (fun j => nI ((match wBad cw a (lc a) 0 (lc a) with | none => lc | some _ => va_up lc a 0) j)))), (qc3, .inl (kZ, 24, .inl (fun j => x_b ((match wBad cw a (lc a) 0 (lc a) with | none => va_up z a true | some _ => z) j))))] H := hP
  have hD : va_D A [(w0, .inl (kJ, 1, .inr (.inl (vp_updL fo 0 (match wBad cw a (lc a) 0 (lc a) with | none => -1 | some k => nI k).toInt64)))), (x0, .inr (5, [.ref qc, .ref qb, .ref qs, .ref qk, .ref r0, .int lu, .int lr])), (qb, .inr (0, [.ref qb1, .int (nI nA)])), (qc, .inr (1, [.ref qc1, .ref qc2, .ref qc3])), (qc1, .inl (kI, 3840, .inl cw)), (qc2, .inl (kI, 24, .inl (fun j => nI ((match wBad cw a (lc a) 0 (lc a) with | none => lc | some _ => va_up lc a 0) j)))), (qc3, .inl (kZ, 24, .inl (fun j => x_b ((match wBad cw a (lc a) 0 (lc a) with | none => va_up z a true | some _ => z) j))))] := hD
  refine lv_goto (tgt := 18) hx hb dLaw_seal_9 (by decide) ?_
  refine lv_iconst (v := 0) hx hb dLaw_seal_18 (by decide) ?_
  exact hret 0 ((match wBad cw a (lc a) 0 (lc a) with | none => lc | some _ => va_up lc a 0, match wBad cw a (lc a) 0 (lc a) with | none => va_up z a true | some _ => z, vp_updL fo 0 (match wBad cw a (lc a) 0 (lc a) with | none => -1 | some k => nI k).toInt64)) _ _ _ (⟨rfl, rfl, rfl, rfl⟩) (hP.sub [1, 2, 3, 4, 5, 6, 0] rfl) (hD.sub [1, 2, 3, 4, 5, 6, 0] (by decide) rfl) hS dLaw_seal_19

set_option maxHeartbeats 4000000 in
set_option maxRecDepth 100000 in
theorem kLaw_sealX (l : Launch) (dC : Nat → ClassId) (dI : Nat → Nat → Nat) (kI kJ kZ : ClassId) (x0 : Nat) (qc : Nat) (qb : Nat) (qs : Nat) (qk : Nat) (r0 : Nat) (lu : Int32) (lr : Int32) (qb1 : Nat) (nA : Nat) (x : Int32) (w0 : Nat) (fo : Nat → Int64) (hnA : nA ≤ 24) (hxa : xHas nA x = false) (hl0 : l.stackTraces = false) :
    XM stY l yLaw_seal wLaw_seal { frames := 8, cells := 1, slots := 6, locals := 132 } (dC, dI) xCl (x_T kI kJ kZ) [(x0, .inr (5, [.ref qc, .ref qb, .ref qs, .ref qk, .ref r0, .int lu, .int lr])), (qb, .inr (0, [.ref qb1, .int (nI nA)])), (w0, .inl (kJ, 1, .inr (.inl fo)))] [.ref x0, .int x, .ref w0] 1 6 x_eI (fun (r : Int32) (u : Unit) => r = 1) (fun (u : Unit) => [(x0, .inr (5, [.ref qc, .ref qb, .ref qs, .ref qk, .ref r0, .int lu, .int lr])), (qb, .inr (0, [.ref qb1, .int (nI nA)])), (w0, .inl (kJ, 1, .inr (.inl fo)))]) := by
  refine XM.ofIW (cc := cLaw_seal) (maxL := 4) (hh := [(0, 9, 12, 19), (0, 9, 15, 21)]) (by decide) rfl (Nat.le_of_ble_eq_true rfl) ?_
  intro p e s m below meth c A Q hx hb hr hml hown hts hlocks hin htab hA hK hP hD hX hS ls hl hret
  have hl : lv_has ls 4 [(0, .ref x0), (1, .int x), (2, .ref w0)] := hl
  refine lv_aload_n hx hb dLaw_seal_0 rfl (lv_at hl 2 rfl) ?_
  refine lv_iconst (v := 0) hx hb dLaw_seal_1 (by decide) ?_
  refine lv_aload_n hx hb dLaw_seal_2 rfl (lv_at hl 0 rfl) ?_
  refine lv_iload_n hx hb dLaw_seal_3 rfl (lv_at hl 1 rfl) ?_
  refine XT.callV (As := [.int x]) (rest := [.int 0, .ref w0]) stY_ok ⟨hx, hb, hml, hown, hts⟩ (kT_seal1 l hl0 dC dI kI kJ kZ x0 qc qb qs qk r0 lu lr qb1 nA x (by first | assumption | omega) (by first | assumption | omega)) (cwV 1 hts (x_gV gw411 gw412 gw413 gw36 gw414) rfl rfl rfl (by decide +kernel) ⟨Nat.le_of_ble_eq_true rfl, Nat.le_of_ble_eq_true rfl⟩) hK hP hD hS hA hX [0, 1] rfl (by decide) rfl rfl rfl rfl hl.1 (Nat.le_of_ble_eq_true rfl) dLaw_seal_4 ⟨Nat.le_of_ble_eq_true rfl, Nat.le_of_ble_eq_true rfl⟩ (fun q9 ce H locs hP hS hce hcv hcl => ?_)
  refine vx_catch (own := RLaw) (name := nIOB) (E := nIOB) hown [] ⟨0, 9, 12, 19⟩ [⟨0, 9, 15, 21⟩] (htab.trans rfl) (fun z9 hz9 => nomatch hz9) (by decide) (by decide) (hts (.classLink RLaw 19 nIOB) (List.mem_cons_of_mem _ gw347)) (va_Nw.use rfl (hX.2.1 (.castable nIOB nIOB) (by decide))) hce hcv hcl ?_
  refine lv_astore_n (lv' := [(3, .ref q9), (0, .ref x0), (1, .int x), (2, .ref w0)]) hx hb dLaw_seal_12 rfl hl (by decide) rfl (fun ls hl => ?_)
  refine lv_iconst (v := 1) hx hb dLaw_seal_13 (by decide) ?_
  exact hret 1 (()) _ _ _ (rfl) (hP.sub [0, 1, 2] rfl) (hD.sub [0, 1, 2] (by decide) rfl) hS dLaw_seal_14

set_option maxHeartbeats 4000000 in
set_option maxRecDepth 100000 in
theorem kLaw_sealY (l : Launch) (dC : Nat → ClassId) (dI : Nat → Nat → Nat) (kI kJ kZ : ClassId) (x0 : Nat) (qc : Nat) (qb : Nat) (qs : Nat) (qk : Nat) (r0 : Nat) (lu : Int32) (lr : Int32) (qb1 : Nat) (nA : Nat) (qc1 : Nat) (qc2 : Nat) (qc3 : Nat) (cw : Nat → Int32) (lc : Nat → Nat) (z : Nat → Bool) (a : Nat) (w0 : Nat) (fo : Nat → Int64) (hnA : nA ≤ 24) (ha : a < nA) (hz : z a = true) (hl0 : l.stackTraces = false) :
    XM stY l yLaw_seal wLaw_seal { frames := 8, cells := 1, slots := 6, locals := 132 } (dC, dI) xCl (x_T kI kJ kZ) [(x0, .inr (5, [.ref qc, .ref qb, .ref qs, .ref qk, .ref r0, .int lu, .int lr])), (qb, .inr (0, [.ref qb1, .int (nI nA)])), (qc, .inr (1, [.ref qc1, .ref qc2, .ref qc3])), (qc1, .inl (kI, 3840, .inl cw)), (qc2, .inl (kI, 24, .inl (fun j => nI (lc j)))), (qc3, .inl (kZ, 24, .inl (fun j => x_b (z j)))), (w0, .inl (kJ, 1, .inr (.inl fo)))] [.ref x0, .int (nI a), .ref w0] 1 6 x_eI (fun (r : Int32) (u : Unit) => r = 2) (fun (u : Unit) => [(x0, .inr (5, [.ref qc, .ref qb, .ref qs, .ref qk, .ref r0, .int lu, .int lr])), (qb, .inr (0, [.ref qb1, .int (nI nA)])), (qc, .inr (1, [.ref qc1, .ref qc2, .ref qc3])), (qc1, .inl (kI, 3840, .inl cw)), (qc2, .inl (kI, 24, .inl (fun j => nI (lc j)))), (qc3, .inl (kZ, 24, .inl (fun j => x_b (z j)))), (w0, .inl (kJ, 1, .inr (.inl fo)))]) := by
  refine XM.ofIW (cc := cLaw_seal) (maxL := 4) (hh := [(0, 9, 12, 19), (0, 9, 15, 21)]) (by decide) rfl (Nat.le_of_ble_eq_true rfl) ?_
  intro p e s m below meth c A Q hx hb hr hml hown hts hlocks hin htab hA hK hP hD hX hS ls hl hret
  have hl : lv_has ls 4 [(0, .ref x0), (1, .int (nI a)), (2, .ref w0)] := hl
  refine lv_aload_n hx hb dLaw_seal_0 rfl (lv_at hl 2 rfl) ?_
  refine lv_iconst (v := 0) hx hb dLaw_seal_1 (by decide) ?_
  refine lv_aload_n hx hb dLaw_seal_2 rfl (lv_at hl 0 rfl) ?_
  refine lv_iload_n hx hb dLaw_seal_3 rfl (lv_at hl 1 rfl) ?_
  refine XT.callV (As := [.int (nI a)]) (rest := [.int 0, .ref w0]) stY_ok ⟨hx, hb, hml, hown, hts⟩ (kT_seal2 l hl0 dC dI kI kJ kZ x0 qc qb qs qk r0 lu lr qb1 nA qc1 qc2 qc3 cw lc z a (by first | assumption | omega) (by first | assumption | omega) (by first | assumption | omega)) (cwV 1 hts (x_gV gw411 gw412 gw413 gw36 gw414) rfl rfl rfl (by decide +kernel) ⟨Nat.le_of_ble_eq_true rfl, Nat.le_of_ble_eq_true rfl⟩) hK hP hD hS hA hX [0, 1, 2, 3, 4, 5] rfl (by decide) rfl rfl rfl rfl hl.1 (Nat.le_of_ble_eq_true rfl) dLaw_seal_4 ⟨Nat.le_of_ble_eq_true rfl, Nat.le_of_ble_eq_true rfl⟩ (fun q9 ce H locs hP hS hce hcv hcl => ?_)
  refine vx_catch (own := RLaw) (name := nISE) (E := nISE) hown [⟨0, 9, 12, 19⟩] ⟨0, 9, 15, 21⟩ [] (htab.trans rfl) (fun z9 hz9 => by rw [List.mem_singleton.mp hz9]; exact Or.inr ⟨(by decide : 19 ≠ 0), nIOB, (hts (.classLink RLaw 19 nIOB) (List.mem_cons_of_mem _ gw347)), hX.2.2.2.2.2.1⟩) (by decide) (by decide) (hts (.classLink RLaw 21 nISE) (List.mem_cons_of_mem _ gw348)) (va_Nw.use rfl (hX.2.1 (.castable nISE nISE) (by decide))) hce hcv hcl ?_
  refine lv_astore_n (lv' := [(3, .ref q9), (0, .ref x0), (1, .int (nI a)), (2, .ref w0)]) hx hb dLaw_seal_15 rfl hl (by decide) rfl (fun ls hl => ?_)
  refine lv_iconst (v := 2) hx hb dLaw_seal_16 (by decide) ?_
  exact hret 2 (()) _ _ _ (rfl) (hP.sub [0, 1, 2, 3, 4, 5, 6] rfl) (hD.sub [0, 1, 2, 3, 4, 5, 6] (by decide) rfl) hS dLaw_seal_17

set_option maxHeartbeats 4000000 in
set_option maxRecDepth 100000 in
theorem kLaw_balance (l : Launch) (dC : Nat → ClassId) (dI : Nat → Nat → Nat) (kI kJ kZ : ClassId) (x0 : Nat) (qc : Nat) (qb : Nat) (qs : Nat) (qk : Nat) (r0 : Nat) (lu : Int32) (lr : Int32) (qb1 : Nat) (nA : Nat) (bal : Nat → Int32) (x : Int32) (w0 : Nat) (fo : Nat → Int64) (hnA : nA ≤ 24) (hxa : xHas nA x = true) :
    XM stY l yLaw_balance wLaw_balance { frames := 3, cells := 0, slots := 0, locals := 63 } (dC, dI) xCl (x_T kI kJ kZ) [(x0, .inr (5, [.ref qc, .ref qb, .ref qs, .ref qk, .ref r0, .int lu, .int lr])), (qb, .inr (0, [.ref qb1, .int (nI nA)])), (qb1, .inl (kI, 24, .inl bal)), (w0, .inl (kJ, 1, .inr (.inl fo)))] [.ref x0, .int x, .ref w0] 0 0 x_eI (fun (r : Int32) (u : (Nat → Int64)) => (r = 0) ∧ (u = vp_updL fo 0 (Int32.toInt64 (if xHas nA x = true then bal x.toNatClampNeg else -1)))) (fun (u : (Nat → Int64)) => [(x0, .inr (5, [.ref qc, .ref qb, .ref qs, .ref qk, .ref r0, .int lu, .int lr])), (qb, .inr (0, [.ref qb1, .int (nI nA)])), (qb1, .inl (kI, 24, .inl bal)), (w0, .inl (kJ, 1, .inr (.inl u)))]) := by
  refine XM.ofIW (cc := cLaw_balance) (maxL := 4) (hh := [(0, 9, 12, 19)]) (by decide) rfl (Nat.le_of_ble_eq_true rfl) ?_
  intro p e s m below meth c A Q hx hb hr hml hown hts hlocks hin htab hA hK hP hD hX hS ls hl hret
  have hl : lv_has ls 4 [(0, .ref x0), (1, .int x), (2, .ref w0)] := hl
  refine lv_aload_n hx hb dLaw_balance_0 rfl (lv_at hl 2 rfl) ?_
  refine lv_iconst (v := 0) hx hb dLaw_balance_1 (by decide) ?_
  refine lv_aload_n hx hb dLaw_balance_2 rfl (lv_at hl 0 rfl) ?_
  refine lv_iload_n hx hb dLaw_balance_3 rfl (lv_at hl 1 rfl) ?_
  refine XM.callVi (As := [.int x]) (rest := [.int 0, .ref w0]) (wr := [(w0, .inl (kJ, 1, .inr (.inl fo)))]) stX_ok ⟨hx, hb, hml, hown, hts⟩ (kLed_balance l dC dI kI kJ kZ x0 qc qb qs qk r0 lu lr qb1 nA bal x (by first | assumption | omega) (by first | assumption | omega)) (cwV 1 hts (x_gV gw616 gw617 gw618 gw36 gw619) rfl rfl rfl (by decide +kernel) ⟨Nat.le_of_ble_eq_true rfl, Nat.le_of_ble_eq_true rfl⟩) hK hP hD hS hA hX.1 [0, 1, 2] [3] rfl rfl (by decide) (by decide) (by decide) rfl rfl rfl rfl hl.1 (Nat.le_of_ble_eq_true rfl) dLaw_balance_4 ⟨Nat.le_of_ble_eq_true rfl, Nat.le_of_ble_eq_true rfl⟩ (fun r_2 u_1 H locs hw hP hD hS => ?_)
  obtain rfl := hw
  have hP : va_P (dC, dI) xCl [(w0, .inl (kJ, 1, .inr (.inl fo))), (x0, .inr (5, [.ref qc, .ref qb, .ref qs, .ref qk, .ref r0, .int lu, .int lr])), (qb, .inr (0, [.ref qb1, .int (nI nA)])), (qb1, .inl (kI, 24, .inl bal))] H := hP
  have hD : va_D A [(w0, .inl (kJ, 1, .inr (.inl fo))), (x0, .inr (5, [.ref qc, .ref qb, .ref qs, .ref qk, .ref r0, .int lu, .int lr])), (qb, .inr (0, [.ref qb1, .int (nI nA)])), (qb1, .inl (kI, 24, .inl bal))] := hD
  refine lv_i2l (v := (if xHas nA x = true then bal x.toNatClampNeg else -1).toInt64) hx hb dLaw_balance_7 rfl ?_
  refine x_last (j := 0) hx hb hK hP hD hS 0 1 rfl rfl rfl (by omega) (by omega) dLaw_balance_8 (fun H locs hP hD hS => ?_)
  have hP : va_P (dC, dI) xCl [(w0, .inl (kJ, 1, .inr (.inl (vp_updL fo 0 (if xHas nA x = true then bal x.toNatClampNeg else -1).toInt64)))), (x0, .inr (5, [.ref qc, .ref qb, .ref qs, .ref qk, .ref r0, .int lu, .int lr])), (qb, .inr (0, [.ref qb1, .int (nI nA)])), (qb1, .inl (kI, 24, .inl bal))] H := hP
  have hD : va_D A [(w0, .inl (kJ, 1, .inr (.inl (vp_updL fo 0 (if xHas nA x = true then bal x.toNatClampNeg else -1).toInt64)))), (x0, .inr (5, [.ref qc, .ref qb, .ref qs, .ref qk, .ref r0, .int lu, .int lr])), (qb, .inr (0, [.ref qb1, .int (nI nA)])), (qb1, .inl (kI, 24, .inl bal))] := hD
  refine lv_goto (tgt := 15) hx hb dLaw_balance_9 (by decide) ?_
  refine lv_iconst (v := 0) hx hb dLaw_balance_15 (by decide) ?_
  exact hret 0 (vp_updL fo 0 (if xHas nA x = true then bal x.toNatClampNeg else -1).toInt64) _ _ _ (⟨rfl, rfl⟩) (hP.sub [1, 2, 3, 0] rfl) (hD.sub [1, 2, 3, 0] (by decide) rfl) hS dLaw_balance_16

set_option maxHeartbeats 4000000 in
set_option maxRecDepth 100000 in
theorem kLaw_balanceX (l : Launch) (dC : Nat → ClassId) (dI : Nat → Nat → Nat) (kI kJ kZ : ClassId) (x0 : Nat) (qc : Nat) (qb : Nat) (qs : Nat) (qk : Nat) (r0 : Nat) (lu : Int32) (lr : Int32) (qb1 : Nat) (nA : Nat) (x : Int32) (w0 : Nat) (fo : Nat → Int64) (hnA : nA ≤ 24) (hxa : xHas nA x = false) (hl0 : l.stackTraces = false) :
    XM stY l yLaw_balance wLaw_balance { frames := 8, cells := 1, slots := 6, locals := 132 } (dC, dI) xCl (x_T kI kJ kZ) [(x0, .inr (5, [.ref qc, .ref qb, .ref qs, .ref qk, .ref r0, .int lu, .int lr])), (qb, .inr (0, [.ref qb1, .int (nI nA)])), (w0, .inl (kJ, 1, .inr (.inl fo)))] [.ref x0, .int x, .ref w0] 1 6 x_eI (fun (r : Int32) (u : Unit) => r = 1) (fun (u : Unit) => [(x0, .inr (5, [.ref qc, .ref qb, .ref qs, .ref qk, .ref r0, .int lu, .int lr])), (qb, .inr (0, [.ref qb1, .int (nI nA)])), (w0, .inl (kJ, 1, .inr (.inl fo)))]) := by
  refine XM.ofIW (cc := cLaw_balance) (maxL := 4) (hh := [(0, 9, 12, 19)]) (by decide) rfl (Nat.le_of_ble_eq_true rfl) ?_
  intro p e s m below meth c A Q hx hb hr hml hown hts hlocks hin htab hA hK hP hD hX hS ls hl hret
  have hl : lv_has ls 4 [(0, .ref x0), (1, .int x), (2, .ref w0)] := hl
  refine lv_aload_n hx hb dLaw_balance_0 rfl (lv_at hl 2 rfl) ?_
  refine lv_iconst (v := 0) hx hb dLaw_balance_1 (by decide) ?_
  refine lv_aload_n hx hb dLaw_balance_2 rfl (lv_at hl 0 rfl) ?_
  refine lv_iload_n hx hb dLaw_balance_3 rfl (lv_at hl 1 rfl) ?_
  refine XT.callV (As := [.int x]) (rest := [.int 0, .ref w0]) stY_ok ⟨hx, hb, hml, hown, hts⟩ (kT_balance l hl0 dC dI kI kJ kZ x0 qc qb qs qk r0 lu lr qb1 nA x (by first | assumption | omega) (by first | assumption | omega)) (cwV 1 hts (x_gV gw616 gw617 gw618 gw36 gw619) rfl rfl rfl (by decide +kernel) ⟨Nat.le_of_ble_eq_true rfl, Nat.le_of_ble_eq_true rfl⟩) hK hP hD hS hA hX [0, 1] rfl (by decide) rfl rfl rfl rfl hl.1 (Nat.le_of_ble_eq_true rfl) dLaw_balance_4 ⟨Nat.le_of_ble_eq_true rfl, Nat.le_of_ble_eq_true rfl⟩ (fun q9 ce H locs hP hS hce hcv hcl => ?_)
  refine vx_catch (own := RLaw) (name := nIOB) (E := nIOB) hown [] ⟨0, 9, 12, 19⟩ [] (htab.trans rfl) (fun z9 hz9 => nomatch hz9) (by decide) (by decide) (hts (.classLink RLaw 19 nIOB) (List.mem_cons_of_mem _ gw347)) (va_Nw.use rfl (hX.2.1 (.castable nIOB nIOB) (by decide))) hce hcv hcl ?_
  refine lv_astore_n (lv' := [(3, .ref q9), (0, .ref x0), (1, .int x), (2, .ref w0)]) hx hb dLaw_balance_12 rfl hl (by decide) rfl (fun ls hl => ?_)
  refine lv_iconst (v := 1) hx hb dLaw_balance_13 (by decide) ?_
  exact hret 1 (()) _ _ _ (rfl) (hP.sub [0, 1, 2] rfl) (hD.sub [0, 1, 2] (by decide) rfl) hS dLaw_balance_14

set_option maxHeartbeats 4000000 in
set_option maxRecDepth 100000 in
theorem kLaw_storage (l : Launch) (dC : Nat → ClassId) (dI : Nat → Nat → Nat) (kI kJ kZ : ClassId) (x0 : Nat) (qc : Nat) (qb : Nat) (qs : Nat) (qk : Nat) (r0 : Nat) (lu : Int32) (lr : Int32) (qb1 : Nat) (nA : Nat) (qs1 : Nat) (qs2 : Nat) (qs3 : Nat) (qs4 : Nat) (kn : Nat) (ch : Nat) (sl : Nat → Int64) (nu : Nat → Int32) (σ : Int64 → Int32) (x : Int32) (k : Int32) (w0 : Nat) (fo : Nat → Int64) (hnA : nA ≤ 24) (hxa : xHas nA x = true) (hst : ST sl nu kn σ) :
    XM stY l yLaw_storage wLaw_storage { frames := 3, cells := 0, slots := 0, locals := 71 } (dC, dI) xCl (x_T kI kJ kZ) [(x0, .inr (5, [.ref qc, .ref qb, .ref qs, .ref qk, .ref r0, .int lu, .int lr])), (qb, .inr (0, [.ref qb1, .int (nI nA)])), (qs, .inr (4, [.ref qs1, .ref qs2, .int (nI kn), .ref qs3, .ref qs4, .int (nI ch)])), (qs1, .inl (kJ, 500, .inr (.inl sl))), (qs2, .inl (kI, 500, .inl nu)), (w0, .inl (kJ, 1, .inr (.inl fo)))] [.ref x0, .int x, .int k, .ref w0] 0 0 x_eI (fun (r : Int32) (u : (Nat → Int64)) => (r = 0) ∧ (u = vp_updL fo 0 (Int32.toInt64 (σ (xSlot x k))))) (fun (u : (Nat → Int64)) => [(x0, .inr (5, [.ref qc, .ref qb, .ref qs, .ref qk, .ref r0, .int lu, .int lr])), (qb, .inr (0, [.ref qb1, .int (nI nA)])), (qs, .inr (4, [.ref qs1, .ref qs2, .int (nI kn), .ref qs3, .ref qs4, .int (nI ch)])), (qs1, .inl (kJ, 500, .inr (.inl sl))), (qs2, .inl (kI, 500, .inl nu)), (w0, .inl (kJ, 1, .inr (.inl u)))]) := by
  refine XM.ofIW (cc := cLaw_storage) (maxL := 5) (hh := [(0, 10, 13, 19)]) (by decide) rfl (Nat.le_of_ble_eq_true rfl) ?_
  intro p e s m below meth c A Q hx hb hr hml hown hts hlocks hin htab hA hK hP hD hX hS ls hl hret
  have hl : lv_has ls 5 [(0, .ref x0), (1, .int x), (2, .int k), (3, .ref w0)] := hl
  refine lv_aload_n hx hb dLaw_storage_0 rfl (lv_at hl 3 rfl) ?_
  refine lv_iconst (v := 0) hx hb dLaw_storage_1 (by decide) ?_
  refine lv_aload_n hx hb dLaw_storage_2 rfl (lv_at hl 0 rfl) ?_
  refine lv_iload_n hx hb dLaw_storage_3 rfl (lv_at hl 1 rfl) ?_
  refine lv_iload_n hx hb dLaw_storage_4 rfl (lv_at hl 2 rfl) ?_
  refine XM.callVi (As := [.int x, .int k]) (rest := [.int 0, .ref w0]) (wr := [(w0, .inl (kJ, 1, .inr (.inl fo)))]) stX_ok ⟨hx, hb, hml, hown, hts⟩ (kLed_storage l dC dI kI kJ kZ x0 qc qb qs qk r0 lu lr qb1 nA qs1 qs2 qs3 qs4 kn ch sl nu σ x k (by first | assumption | omega) (by first | assumption | omega) (by first | assumption | omega)) (cwV 2 hts (x_gV gw624 gw625 gw626 gw36 gw627) rfl rfl rfl (by decide +kernel) ⟨Nat.le_of_ble_eq_true rfl, Nat.le_of_ble_eq_true rfl⟩) hK hP hD hS hA hX.1 [0, 1, 2, 3, 4] [5] rfl rfl (by decide) (by decide) (by decide) rfl rfl rfl rfl hl.1 (Nat.le_of_ble_eq_true rfl) dLaw_storage_5 ⟨Nat.le_of_ble_eq_true rfl, Nat.le_of_ble_eq_true rfl⟩ (fun r_2 u_1 H locs hw hP hD hS => ?_)
  obtain rfl := hw
  have hP : va_P (dC, dI) xCl [(w0, .inl (kJ, 1, .inr (.inl fo))), (x0, .inr (5, [.ref qc, .ref qb, .ref qs, .ref qk, .ref r0, .int lu, .int lr])), (qb, .inr (0, [.ref qb1, .int (nI nA)])), (qs, .inr (4, [.ref qs1, .ref qs2, .int (nI kn), .ref qs3, .ref qs4, .int (nI ch)])), (qs1, .inl (kJ, 500, .inr (.inl sl))), (qs2, .inl (kI, 500, .inl nu))] H := hP
  have hD : va_D A [(w0, .inl (kJ, 1, .inr (.inl fo))), (x0, .inr (5, [.ref qc, .ref qb, .ref qs, .ref qk, .ref r0, .int lu, .int lr])), (qb, .inr (0, [.ref qb1, .int (nI nA)])), (qs, .inr (4, [.ref qs1, .ref qs2, .int (nI kn), .ref qs3, .ref qs4, .int (nI ch)])), (qs1, .inl (kJ, 500, .inr (.inl sl))), (qs2, .inl (kI, 500, .inl nu))] := hD
  refine lv_i2l (v := (σ (xSlot x k)).toInt64) hx hb dLaw_storage_8 rfl ?_
  refine x_last (j := 0) hx hb hK hP hD hS 0 1 rfl rfl rfl (by omega) (by omega) dLaw_storage_9 (fun H locs hP hD hS => ?_)
  have hP : va_P (dC, dI) xCl [(w0, .inl (kJ, 1, .inr (.inl (vp_updL fo 0 (σ (xSlot x k)).toInt64)))), (x0, .inr (5, [.ref qc, .ref qb, .ref qs, .ref qk, .ref r0, .int lu, .int lr])), (qb, .inr (0, [.ref qb1, .int (nI nA)])), (qs, .inr (4, [.ref qs1, .ref qs2, .int (nI kn), .ref qs3, .ref qs4, .int (nI ch)])), (qs1, .inl (kJ, 500, .inr (.inl sl))), (qs2, .inl (kI, 500, .inl nu))] H := hP
  have hD : va_D A [(w0, .inl (kJ, 1, .inr (.inl (vp_updL fo 0 (σ (xSlot x k)).toInt64)))), (x0, .inr (5, [.ref qc, .ref qb, .ref qs, .ref qk, .ref r0, .int lu, .int lr])), (qb, .inr (0, [.ref qb1, .int (nI nA)])), (qs, .inr (4, [.ref qs1, .ref qs2, .int (nI kn), .ref qs3, .ref qs4, .int (nI ch)])), (qs1, .inl (kJ, 500, .inr (.inl sl))), (qs2, .inl (kI, 500, .inl nu))] := hD
  refine lv_goto (tgt := 17) hx hb dLaw_storage_10 (by decide) ?_
  refine lv_iconst (v := 0) hx hb dLaw_storage_17 (by decide) ?_
  exact hret 0 (vp_updL fo 0 (σ (xSlot x k)).toInt64) _ _ _ (⟨rfl, rfl⟩) (hP.sub [1, 2, 3, 4, 5, 0] rfl) (hD.sub [1, 2, 3, 4, 5, 0] (by decide) rfl) hS dLaw_storage_18

set_option maxHeartbeats 4000000 in
set_option maxRecDepth 100000 in
theorem kLaw_storageX (l : Launch) (dC : Nat → ClassId) (dI : Nat → Nat → Nat) (kI kJ kZ : ClassId) (x0 : Nat) (qc : Nat) (qb : Nat) (qs : Nat) (qk : Nat) (r0 : Nat) (lu : Int32) (lr : Int32) (qb1 : Nat) (nA : Nat) (x : Int32) (k : Int32) (w0 : Nat) (fo : Nat → Int64) (hnA : nA ≤ 24) (hxa : xHas nA x = false) (hl0 : l.stackTraces = false) :
    XM stY l yLaw_storage wLaw_storage { frames := 8, cells := 1, slots := 6, locals := 133 } (dC, dI) xCl (x_T kI kJ kZ) [(x0, .inr (5, [.ref qc, .ref qb, .ref qs, .ref qk, .ref r0, .int lu, .int lr])), (qb, .inr (0, [.ref qb1, .int (nI nA)])), (w0, .inl (kJ, 1, .inr (.inl fo)))] [.ref x0, .int x, .int k, .ref w0] 1 6 x_eI (fun (r : Int32) (u : Unit) => r = 1) (fun (u : Unit) => [(x0, .inr (5, [.ref qc, .ref qb, .ref qs, .ref qk, .ref r0, .int lu, .int lr])), (qb, .inr (0, [.ref qb1, .int (nI nA)])), (w0, .inl (kJ, 1, .inr (.inl fo)))]) := by
  refine XM.ofIW (cc := cLaw_storage) (maxL := 5) (hh := [(0, 10, 13, 19)]) (by decide) rfl (Nat.le_of_ble_eq_true rfl) ?_
  intro p e s m below meth c A Q hx hb hr hml hown hts hlocks hin htab hA hK hP hD hX hS ls hl hret
  have hl : lv_has ls 5 [(0, .ref x0), (1, .int x), (2, .int k), (3, .ref w0)] := hl
  refine lv_aload_n hx hb dLaw_storage_0 rfl (lv_at hl 3 rfl) ?_
  refine lv_iconst (v := 0) hx hb dLaw_storage_1 (by decide) ?_
  refine lv_aload_n hx hb dLaw_storage_2 rfl (lv_at hl 0 rfl) ?_
  refine lv_iload_n hx hb dLaw_storage_3 rfl (lv_at hl 1 rfl) ?_
  refine lv_iload_n hx hb dLaw_storage_4 rfl (lv_at hl 2 rfl) ?_
  refine XT.callV (As := [.int x, .int k]) (rest := [.int 0, .ref w0]) stY_ok ⟨hx, hb, hml, hown, hts⟩ (kT_storage l hl0 dC dI kI kJ kZ x0 qc qb qs qk r0 lu lr qb1 nA x k (by first | assumption | omega) (by first | assumption | omega)) (cwV 2 hts (x_gV gw624 gw625 gw626 gw36 gw627) rfl rfl rfl (by decide +kernel) ⟨Nat.le_of_ble_eq_true rfl, Nat.le_of_ble_eq_true rfl⟩) hK hP hD hS hA hX [0, 1] rfl (by decide) rfl rfl rfl rfl hl.1 (Nat.le_of_ble_eq_true rfl) dLaw_storage_5 ⟨Nat.le_of_ble_eq_true rfl, Nat.le_of_ble_eq_true rfl⟩ (fun q9 ce H locs hP hS hce hcv hcl => ?_)
  refine vx_catch (own := RLaw) (name := nIOB) (E := nIOB) hown [] ⟨0, 10, 13, 19⟩ [] (htab.trans rfl) (fun z9 hz9 => nomatch hz9) (by decide) (by decide) (hts (.classLink RLaw 19 nIOB) (List.mem_cons_of_mem _ gw347)) (va_Nw.use rfl (hX.2.1 (.castable nIOB nIOB) (by decide))) hce hcv hcl ?_
  refine lv_astore (lv' := [(4, .ref q9), (0, .ref x0), (1, .int x), (2, .int k), (3, .ref w0)]) hx hb dLaw_storage_13 hl (by decide) rfl (fun ls hl => ?_)
  refine lv_iconst (v := 1) hx hb dLaw_storage_15 (by decide) ?_
  exact hret 1 (()) _ _ _ (rfl) (hP.sub [0, 1, 2] rfl) (hD.sub [0, 1, 2] (by decide) rfl) hS dLaw_storage_16

set_option maxHeartbeats 4000000 in
set_option maxRecDepth 100000 in
theorem kLaw_log (l : Launch) (dC : Nat → ClassId) (dI : Nat → Nat → Nat) (kI kJ kZ : ClassId) (x0 : Nat) (qc : Nat) (qb : Nat) (qs : Nat) (qk : Nat) (r0 : Nat) (lu : Int32) (lr : Int32) (qk1 : Nat) (lf : Nat → Int32) (ln : Nat) (j : Nat) (w0 : Nat) (fo : Nat → Int64) (hln : ln ≤ 300) (hj : j < ln) :
    XM stY l yLaw_log wLaw_log { frames := 2, cells := 0, slots := 0, locals := 42 } (dC, dI) xCl (x_T kI kJ kZ) [(x0, .inr (5, [.ref qc, .ref qb, .ref qs, .ref qk, .ref r0, .int lu, .int lr])), (qk, .inr (2, [.ref qk1, .int (nI ln)])), (qk1, .inl (kI, 300, .inl lf)), (w0, .inl (kJ, 1, .inr (.inl fo)))] [.ref x0, .int (nI j), .ref w0] 0 0 x_eI (fun (r : Int32) (u : (Nat → Int64)) => (r = 0) ∧ (u = vp_updL fo 0 (Int32.toInt64 (lf j)))) (fun (u : (Nat → Int64)) => [(x0, .inr (5, [.ref qc, .ref qb, .ref qs, .ref qk, .ref r0, .int lu, .int lr])), (qk, .inr (2, [.ref qk1, .int (nI ln)])), (qk1, .inl (kI, 300, .inl lf)), (w0, .inl (kJ, 1, .inr (.inl u)))]) := by
  refine XM.ofIW (cc := cLaw_log) (maxL := 4) (hh := [(0, 9, 12, 19)]) (by decide) rfl (Nat.le_of_ble_eq_true rfl) ?_
  intro p e s m below meth c A Q hx hb hr hml hown hts hlocks hin htab hA hK hP hD hX hS ls hl hret
  have hl : lv_has ls 4 [(0, .ref x0), (1, .int (nI j)), (2, .ref w0)] := hl
  refine lv_aload_n hx hb dLaw_log_0 rfl (lv_at hl 2 rfl) ?_
  refine lv_iconst (v := 0) hx hb dLaw_log_1 (by decide) ?_
  refine lv_aload_n hx hb dLaw_log_2 rfl (lv_at hl 0 rfl) ?_
  refine lv_iload_n hx hb dLaw_log_3 rfl (lv_at hl 1 rfl) ?_
  refine XM.callVi (As := [.int (nI j)]) (rest := [.int 0, .ref w0]) (wr := [(w0, .inl (kJ, 1, .inr (.inl fo)))]) stX_ok ⟨hx, hb, hml, hown, hts⟩ (kLed_log l dC dI kI kJ kZ x0 qc qb qs qk r0 lu lr qk1 lf ln j (by first | assumption | omega) (by first | assumption | omega)) (cwV 1 hts (x_gV gw632 gw633 gw634 gw36 gw635) rfl rfl rfl (by decide +kernel) ⟨Nat.le_of_ble_eq_true rfl, Nat.le_of_ble_eq_true rfl⟩) hK hP hD hS hA hX.1 [0, 1, 2] [3] rfl rfl (by decide) (by decide) (by decide) rfl rfl rfl rfl hl.1 (Nat.le_of_ble_eq_true rfl) dLaw_log_4 ⟨Nat.le_of_ble_eq_true rfl, Nat.le_of_ble_eq_true rfl⟩ (fun r_2 u_1 H locs hw hP hD hS => ?_)
  obtain rfl := hw
  have hP : va_P (dC, dI) xCl [(w0, .inl (kJ, 1, .inr (.inl fo))), (x0, .inr (5, [.ref qc, .ref qb, .ref qs, .ref qk, .ref r0, .int lu, .int lr])), (qk, .inr (2, [.ref qk1, .int (nI ln)])), (qk1, .inl (kI, 300, .inl lf))] H := hP
  have hD : va_D A [(w0, .inl (kJ, 1, .inr (.inl fo))), (x0, .inr (5, [.ref qc, .ref qb, .ref qs, .ref qk, .ref r0, .int lu, .int lr])), (qk, .inr (2, [.ref qk1, .int (nI ln)])), (qk1, .inl (kI, 300, .inl lf))] := hD
  refine lv_i2l (v := (lf j).toInt64) hx hb dLaw_log_7 rfl ?_
  refine x_last (j := 0) hx hb hK hP hD hS 0 1 rfl rfl rfl (by omega) (by omega) dLaw_log_8 (fun H locs hP hD hS => ?_)
  have hP : va_P (dC, dI) xCl [(w0, .inl (kJ, 1, .inr (.inl (vp_updL fo 0 (lf j).toInt64)))), (x0, .inr (5, [.ref qc, .ref qb, .ref qs, .ref qk, .ref r0, .int lu, .int lr])), (qk, .inr (2, [.ref qk1, .int (nI ln)])), (qk1, .inl (kI, 300, .inl lf))] H := hP
  have hD : va_D A [(w0, .inl (kJ, 1, .inr (.inl (vp_updL fo 0 (lf j).toInt64)))), (x0, .inr (5, [.ref qc, .ref qb, .ref qs, .ref qk, .ref r0, .int lu, .int lr])), (qk, .inr (2, [.ref qk1, .int (nI ln)])), (qk1, .inl (kI, 300, .inl lf))] := hD
  refine lv_goto (tgt := 15) hx hb dLaw_log_9 (by decide) ?_
  refine lv_iconst (v := 0) hx hb dLaw_log_15 (by decide) ?_
  exact hret 0 (vp_updL fo 0 (lf j).toInt64) _ _ _ (⟨rfl, rfl⟩) (hP.sub [1, 2, 3, 0] rfl) (hD.sub [1, 2, 3, 0] (by decide) rfl) hS dLaw_log_16

set_option maxHeartbeats 4000000 in
set_option maxRecDepth 100000 in
theorem kLaw_logX (l : Launch) (dC : Nat → ClassId) (dI : Nat → Nat → Nat) (kI kJ kZ : ClassId) (x0 : Nat) (qc : Nat) (qb : Nat) (qs : Nat) (qk : Nat) (r0 : Nat) (lu : Int32) (lr : Int32) (qk1 : Nat) (ln : Nat) (x : Int32) (w0 : Nat) (fo : Nat → Int64) (hln : ln ≤ 300) (hxa : xHas ln x = false) (hl0 : l.stackTraces = false) :
    XM stY l yLaw_log wLaw_log { frames := 7, cells := 1, slots := 6, locals := 111 } (dC, dI) xCl (x_T kI kJ kZ) [(x0, .inr (5, [.ref qc, .ref qb, .ref qs, .ref qk, .ref r0, .int lu, .int lr])), (qk, .inr (2, [.ref qk1, .int (nI ln)])), (w0, .inl (kJ, 1, .inr (.inl fo)))] [.ref x0, .int x, .ref w0] 1 6 x_eI (fun (r : Int32) (u : Unit) => r = 1) (fun (u : Unit) => [(x0, .inr (5, [.ref qc, .ref qb, .ref qs, .ref qk, .ref r0, .int lu, .int lr])), (qk, .inr (2, [.ref qk1, .int (nI ln)])), (w0, .inl (kJ, 1, .inr (.inl fo)))]) := by
  refine XM.ofIW (cc := cLaw_log) (maxL := 4) (hh := [(0, 9, 12, 19)]) (by decide) rfl (Nat.le_of_ble_eq_true rfl) ?_
  intro p e s m below meth c A Q hx hb hr hml hown hts hlocks hin htab hA hK hP hD hX hS ls hl hret
  have hl : lv_has ls 4 [(0, .ref x0), (1, .int x), (2, .ref w0)] := hl
  refine lv_aload_n hx hb dLaw_log_0 rfl (lv_at hl 2 rfl) ?_
  refine lv_iconst (v := 0) hx hb dLaw_log_1 (by decide) ?_
  refine lv_aload_n hx hb dLaw_log_2 rfl (lv_at hl 0 rfl) ?_
  refine lv_iload_n hx hb dLaw_log_3 rfl (lv_at hl 1 rfl) ?_
  refine XT.callV (As := [.int x]) (rest := [.int 0, .ref w0]) stY_ok ⟨hx, hb, hml, hown, hts⟩ (kT_log l hl0 dC dI kI kJ kZ x0 qc qb qs qk r0 lu lr qk1 ln x (by first | assumption | omega) (by first | assumption | omega)) (cwV 1 hts (x_gV gw632 gw633 gw634 gw36 gw635) rfl rfl rfl (by decide +kernel) ⟨Nat.le_of_ble_eq_true rfl, Nat.le_of_ble_eq_true rfl⟩) hK hP hD hS hA hX [0, 1] rfl (by decide) rfl rfl rfl rfl hl.1 (Nat.le_of_ble_eq_true rfl) dLaw_log_4 ⟨Nat.le_of_ble_eq_true rfl, Nat.le_of_ble_eq_true rfl⟩ (fun q9 ce H locs hP hS hce hcv hcl => ?_)
  refine vx_catch (own := RLaw) (name := nIOB) (E := nIOB) hown [] ⟨0, 9, 12, 19⟩ [] (htab.trans rfl) (fun z9 hz9 => nomatch hz9) (by decide) (by decide) (hts (.classLink RLaw 19 nIOB) (List.mem_cons_of_mem _ gw347)) (va_Nw.use rfl (hX.2.1 (.castable nIOB nIOB) (by decide))) hce hcv hcl ?_
  refine lv_astore_n (lv' := [(3, .ref q9), (0, .ref x0), (1, .int x), (2, .ref w0)]) hx hb dLaw_log_12 rfl hl (by decide) rfl (fun ls hl => ?_)
  refine lv_iconst (v := 1) hx hb dLaw_log_13 (by decide) ?_
  exact hret 1 (()) _ _ _ (rfl) (hP.sub [0, 1, 2] rfl) (hD.sub [0, 1, 2] (by decide) rfl) hS dLaw_log_14

set_option maxHeartbeats 4000000 in
set_option maxRecDepth 100000 in
theorem kLaw_transact1 (l : Launch) (dC : Nat → ClassId) (dI : Nat → Nat → Nat) (kI kJ kZ : ClassId) (x0 : Nat) (qc : Nat) (qb : Nat) (qs : Nat) (qk : Nat) (r0 : Nat) (lu : Int32) (lr : Int32) (qb1 : Nat) (nA : Nat) (x : Int32) (y : Int32) (v : Int32) (g : Int32) (w0 : Nat) (fo : Nat → Int64) (hnA : nA ≤ 24) (hxa : xHas nA x = false) (hl0 : l.stackTraces = false) :
    XM stY l yLaw_transact wLaw_transact { frames := 8, cells := 1, slots := 6, locals := 135 } (dC, dI) xCl (x_T kI kJ kZ) [(x0, .inr (5, [.ref qc, .ref qb, .ref qs, .ref qk, .ref r0, .int lu, .int lr])), (qb, .inr (0, [.ref qb1, .int (nI nA)])), (w0, .inl (kJ, 1, .inr (.inl fo)))] [.ref x0, .int x, .int y, .int v, .int g, .ref w0] 1 6 x_eI (fun (r : Int32) (u : Unit) => r = 1) (fun (u : Unit) => [(x0, .inr (5, [.ref qc, .ref qb, .ref qs, .ref qk, .ref r0, .int lu, .int lr])), (qb, .inr (0, [.ref qb1, .int (nI nA)])), (w0, .inl (kJ, 1, .inr (.inl fo)))]) := by
  refine XM.ofIW (cc := cLaw_transact) (maxL := 7) (hh := [(0, 14, 17, 19), (0, 14, 21, 13)]) (by decide) rfl (Nat.le_of_ble_eq_true rfl) ?_
  intro p e s m below meth c A Q hx hb hr hml hown hts hlocks hin htab hA hK hP hD hX hS ls hl hret
  have hl : lv_has ls 7 [(0, .ref x0), (1, .int x), (2, .int y), (3, .int v), (4, .int g), (5, .ref w0)] := hl
  refine lv_aload hx hb dLaw_transact_0 (lv_at hl 5 rfl) ?_
  refine lv_iconst (v := 0) hx hb dLaw_transact_2 (by decide) ?_
  refine lv_aload_n hx hb dLaw_transact_3 rfl (lv_at hl 0 rfl) ?_
  refine lv_iload_n hx hb dLaw_transact_4 rfl (lv_at hl 1 rfl) ?_
  refine lv_iload_n hx hb dLaw_transact_5 rfl (lv_at hl 2 rfl) ?_
  refine lv_iload_n hx hb dLaw_transact_6 rfl (lv_at hl 3 rfl) ?_
  refine lv_iload hx hb dLaw_transact_7 (lv_at hl 4 rfl) ?_
  refine XT.callV (As := [.int x, .int y, .int v, .int g]) (rest := [.int 0, .ref w0]) stY_ok ⟨hx, hb, hml, hown, hts⟩ (kT_trans1 l hl0 dC dI kI kJ kZ x0 qc qb qs qk r0 lu lr qb1 nA x y v g (by first | assumption | omega) (by first | assumption | omega)) (cwV 4 hts (x_gV gw437 gw438 gw439 gw36 gw440) rfl rfl rfl (by decide +kernel) ⟨Nat.le_of_ble_eq_true rfl, Nat.le_of_ble_eq_true rfl⟩) hK hP hD hS hA hX [0, 1] rfl (by decide) rfl rfl rfl rfl hl.1 (Nat.le_of_ble_eq_true rfl) dLaw_transact_9 ⟨Nat.le_of_ble_eq_true rfl, Nat.le_of_ble_eq_true rfl⟩ (fun q9 ce H locs hP hS hce hcv hcl => ?_)
  refine vx_catch (own := RLaw) (name := nIOB) (E := nIOB) hown [] ⟨0, 14, 17, 19⟩ [⟨0, 14, 21, 13⟩] (htab.trans rfl) (fun z9 hz9 => nomatch hz9) (by decide) (by decide) (hts (.classLink RLaw 19 nIOB) (List.mem_cons_of_mem _ gw347)) (va_Nw.use rfl (hX.2.1 (.castable nIOB nIOB) (by decide))) hce hcv hcl ?_
  refine lv_astore (lv' := [(6, .ref q9), (0, .ref x0), (1, .int x), (2, .int y), (3, .int v), (4, .int g), (5, .ref w0)]) hx hb dLaw_transact_17 hl (by decide) rfl (fun ls hl => ?_)
  refine lv_iconst (v := 1) hx hb dLaw_transact_19 (by decide) ?_
  exact hret 1 (()) _ _ _ (rfl) (hP.sub [0, 1, 2] rfl) (hD.sub [0, 1, 2] (by decide) rfl) hS dLaw_transact_20

set_option maxHeartbeats 4000000 in
set_option maxRecDepth 100000 in
theorem kLaw_transact2 (l : Launch) (dC : Nat → ClassId) (dI : Nat → Nat → Nat) (kI kJ kZ : ClassId) (x0 : Nat) (qc : Nat) (qb : Nat) (qs : Nat) (qk : Nat) (r0 : Nat) (lu : Int32) (lr : Int32) (qb1 : Nat) (nA : Nat) (a : Nat) (y : Int32) (v : Int32) (g : Int32) (w0 : Nat) (fo : Nat → Int64) (hnA : nA ≤ 24) (ha : a < nA) (hxb : xHas nA y = false) (hl0 : l.stackTraces = false) :
    XM stY l yLaw_transact wLaw_transact { frames := 8, cells := 1, slots := 6, locals := 135 } (dC, dI) xCl (x_T kI kJ kZ) [(x0, .inr (5, [.ref qc, .ref qb, .ref qs, .ref qk, .ref r0, .int lu, .int lr])), (qb, .inr (0, [.ref qb1, .int (nI nA)])), (w0, .inl (kJ, 1, .inr (.inl fo)))] [.ref x0, .int (nI a), .int y, .int v, .int g, .ref w0] 1 6 x_eI (fun (r : Int32) (u : Unit) => r = 1) (fun (u : Unit) => [(x0, .inr (5, [.ref qc, .ref qb, .ref qs, .ref qk, .ref r0, .int lu, .int lr])), (qb, .inr (0, [.ref qb1, .int (nI nA)])), (w0, .inl (kJ, 1, .inr (.inl fo)))]) := by
  refine XM.ofIW (cc := cLaw_transact) (maxL := 7) (hh := [(0, 14, 17, 19), (0, 14, 21, 13)]) (by decide) rfl (Nat.le_of_ble_eq_true rfl) ?_
  intro p e s m below meth c A Q hx hb hr hml hown hts hlocks hin htab hA hK hP hD hX hS ls hl hret
  have hl : lv_has ls 7 [(0, .ref x0), (1, .int (nI a)), (2, .int y), (3, .int v), (4, .int g), (5, .ref w0)] := hl
  refine lv_aload hx hb dLaw_transact_0 (lv_at hl 5 rfl) ?_
  refine lv_iconst (v := 0) hx hb dLaw_transact_2 (by decide) ?_
  refine lv_aload_n hx hb dLaw_transact_3 rfl (lv_at hl 0 rfl) ?_
  refine lv_iload_n hx hb dLaw_transact_4 rfl (lv_at hl 1 rfl) ?_
  refine lv_iload_n hx hb dLaw_transact_5 rfl (lv_at hl 2 rfl) ?_
  refine lv_iload_n hx hb dLaw_transact_6 rfl (lv_at hl 3 rfl) ?_
  refine lv_iload hx hb dLaw_transact_7 (lv_at hl 4 rfl) ?_
  refine XT.callV (As := [.int (nI a), .int y, .int v, .int g]) (rest := [.int 0, .ref w0]) stY_ok ⟨hx, hb, hml, hown, hts⟩ (kT_trans2 l hl0 dC dI kI kJ kZ x0 qc qb qs qk r0 lu lr qb1 nA a y v g (by first | assumption | omega) (by first | assumption | omega) (by first | assumption | omega)) (cwV 4 hts (x_gV gw437 gw438 gw439 gw36 gw440) rfl rfl rfl (by decide +kernel) ⟨Nat.le_of_ble_eq_true rfl, Nat.le_of_ble_eq_true rfl⟩) hK hP hD hS hA hX [0, 1] rfl (by decide) rfl rfl rfl rfl hl.1 (Nat.le_of_ble_eq_true rfl) dLaw_transact_9 ⟨Nat.le_of_ble_eq_true rfl, Nat.le_of_ble_eq_true rfl⟩ (fun q9 ce H locs hP hS hce hcv hcl => ?_)
  refine vx_catch (own := RLaw) (name := nIOB) (E := nIOB) hown [] ⟨0, 14, 17, 19⟩ [⟨0, 14, 21, 13⟩] (htab.trans rfl) (fun z9 hz9 => nomatch hz9) (by decide) (by decide) (hts (.classLink RLaw 19 nIOB) (List.mem_cons_of_mem _ gw347)) (va_Nw.use rfl (hX.2.1 (.castable nIOB nIOB) (by decide))) hce hcv hcl ?_
  refine lv_astore (lv' := [(6, .ref q9), (0, .ref x0), (1, .int (nI a)), (2, .int y), (3, .int v), (4, .int g), (5, .ref w0)]) hx hb dLaw_transact_17 hl (by decide) rfl (fun ls hl => ?_)
  refine lv_iconst (v := 1) hx hb dLaw_transact_19 (by decide) ?_
  exact hret 1 (()) _ _ _ (rfl) (hP.sub [0, 1, 2] rfl) (hD.sub [0, 1, 2] (by decide) rfl) hS dLaw_transact_20

set_option maxHeartbeats 4000000 in
set_option maxRecDepth 100000 in
theorem kLaw_transact3 (l : Launch) (dC : Nat → ClassId) (dI : Nat → Nat → Nat) (kI kJ kZ : ClassId) (x0 : Nat) (qc : Nat) (qb : Nat) (qs : Nat) (qk : Nat) (r0 : Nat) (lu : Int32) (lr : Int32) (qb1 : Nat) (nA : Nat) (bal : Nat → Int32) (a : Nat) (y : Int32) (v : Int32) (g : Int32) (w0 : Nat) (fo : Nat → Int64) (hnA : nA ≤ 24) (ha : a < nA) (hxb : xHas nA y = true) (hcn : v < 0 ∨ bal a < v) (hl0 : l.stackTraces = false) :
    XM stY l yLaw_transact wLaw_transact { frames := 7, cells := 1, slots := 6, locals := 114 } (dC, dI) xCl (x_T kI kJ kZ) [(x0, .inr (5, [.ref qc, .ref qb, .ref qs, .ref qk, .ref r0, .int lu, .int lr])), (qb, .inr (0, [.ref qb1, .int (nI nA)])), (qb1, .inl (kI, 24, .inl bal)), (w0, .inl (kJ, 1, .inr (.inl fo)))] [.ref x0, .int (nI a), .int y, .int v, .int g, .ref w0] 1 6 x_eI (fun (r : Int32) (u : Unit) => r = 2) (fun (u : Unit) => [(x0, .inr (5, [.ref qc, .ref qb, .ref qs, .ref qk, .ref r0, .int lu, .int lr])), (qb, .inr (0, [.ref qb1, .int (nI nA)])), (qb1, .inl (kI, 24, .inl bal)), (w0, .inl (kJ, 1, .inr (.inl fo)))]) := by
  refine XM.ofIW (cc := cLaw_transact) (maxL := 7) (hh := [(0, 14, 17, 19), (0, 14, 21, 13)]) (by decide) rfl (Nat.le_of_ble_eq_true rfl) ?_
  intro p e s m below meth c A Q hx hb hr hml hown hts hlocks hin htab hA hK hP hD hX hS ls hl hret
  have hl : lv_has ls 7 [(0, .ref x0), (1, .int (nI a)), (2, .int y), (3, .int v), (4, .int g), (5, .ref w0)] := hl
  refine lv_aload hx hb dLaw_transact_0 (lv_at hl 5 rfl) ?_
  refine lv_iconst (v := 0) hx hb dLaw_transact_2 (by decide) ?_
  refine lv_aload_n hx hb dLaw_transact_3 rfl (lv_at hl 0 rfl) ?_
  refine lv_iload_n hx hb dLaw_transact_4 rfl (lv_at hl 1 rfl) ?_
  refine lv_iload_n hx hb dLaw_transact_5 rfl (lv_at hl 2 rfl) ?_
  refine lv_iload_n hx hb dLaw_transact_6 rfl (lv_at hl 3 rfl) ?_
  refine lv_iload hx hb dLaw_transact_7 (lv_at hl 4 rfl) ?_
  refine XT.callV (As := [.int (nI a), .int y, .int v, .int g]) (rest := [.int 0, .ref w0]) stY_ok ⟨hx, hb, hml, hown, hts⟩ (kT_trans3 l hl0 dC dI kI kJ kZ x0 qc qb qs qk r0 lu lr qb1 nA bal a y v g (by first | assumption | omega) (by first | assumption | omega) (by first | assumption | omega) (by first | assumption | omega)) (cwV 4 hts (x_gV gw437 gw438 gw439 gw36 gw440) rfl rfl rfl (by decide +kernel) ⟨Nat.le_of_ble_eq_true rfl, Nat.le_of_ble_eq_true rfl⟩) hK hP hD hS hA hX [0, 1, 2] rfl (by decide) rfl rfl rfl rfl hl.1 (Nat.le_of_ble_eq_true rfl) dLaw_transact_9 ⟨Nat.le_of_ble_eq_true rfl, Nat.le_of_ble_eq_true rfl⟩ (fun q9 ce H locs hP hS hce hcv hcl => ?_)
  refine vx_catch (own := RLaw) (name := nIAE) (E := nIAE) hown [⟨0, 14, 17, 19⟩] ⟨0, 14, 21, 13⟩ [] (htab.trans rfl) (fun z9 hz9 => by rw [List.mem_singleton.mp hz9]; exact Or.inr ⟨(by decide : 19 ≠ 0), nIOB, (hts (.classLink RLaw 19 nIOB) (List.mem_cons_of_mem _ gw347)), hX.2.2.2.2.2.2⟩) (by decide) (by decide) (hts (.classLink RLaw 13 nIAE) (List.mem_cons_of_mem _ gw265)) (va_Nw.use rfl (hX.2.1 (.castable nIAE nIAE) (by decide))) hce hcv hcl ?_
  refine lv_astore (lv' := [(6, .ref q9), (0, .ref x0), (1, .int (nI a)), (2, .int y), (3, .int v), (4, .int g), (5, .ref w0)]) hx hb dLaw_transact_21 hl (by decide) rfl (fun ls hl => ?_)
  refine lv_iconst (v := 2) hx hb dLaw_transact_23 (by decide) ?_
  exact hret 2 (()) _ _ _ (rfl) (hP.sub [0, 1, 2, 3] rfl) (hD.sub [0, 1, 2, 3] (by decide) rfl) hS dLaw_transact_24

set_option maxHeartbeats 4000000 in
set_option maxRecDepth 100000 in
theorem kLaw_transact4 (l : Launch) (dC : Nat → ClassId) (dI : Nat → Nat → Nat) (kI kJ kZ : ClassId) (x0 : Nat) (qc : Nat) (qb : Nat) (qs : Nat) (qk : Nat) (r0 : Nat) (lu : Int32) (lr : Int32) (qb1 : Nat) (nA : Nat) (bal : Nat → Int32) (a : Nat) (y : Int32) (v : Int32) (g : Int32) (w0 : Nat) (fo : Nat → Int64) (hnA : nA ≤ 24) (ha : a < nA) (hxb : xHas nA y = true) (hv : ¬ v < 0) (hvb : ¬ bal a < v) (hgn : g < 0 ∨ 10000 < g) (hl0 : l.stackTraces = false) :
    XM stY l yLaw_transact wLaw_transact { frames := 7, cells := 1, slots := 6, locals := 114 } (dC, dI) xCl (x_T kI kJ kZ) [(x0, .inr (5, [.ref qc, .ref qb, .ref qs, .ref qk, .ref r0, .int lu, .int lr])), (qb, .inr (0, [.ref qb1, .int (nI nA)])), (qb1, .inl (kI, 24, .inl bal)), (w0, .inl (kJ, 1, .inr (.inl fo)))] [.ref x0, .int (nI a), .int y, .int v, .int g, .ref w0] 1 6 x_eI (fun (r : Int32) (u : Unit) => r = 2) (fun (u : Unit) => [(x0, .inr (5, [.ref qc, .ref qb, .ref qs, .ref qk, .ref r0, .int lu, .int lr])), (qb, .inr (0, [.ref qb1, .int (nI nA)])), (qb1, .inl (kI, 24, .inl bal)), (w0, .inl (kJ, 1, .inr (.inl fo)))]) := by
  refine XM.ofIW (cc := cLaw_transact) (maxL := 7) (hh := [(0, 14, 17, 19), (0, 14, 21, 13)]) (by decide) rfl (Nat.le_of_ble_eq_true rfl) ?_
  intro p e s m below meth c A Q hx hb hr hml hown hts hlocks hin htab hA hK hP hD hX hS ls hl hret
  have hl : lv_has ls 7 [(0, .ref x0), (1, .int (nI a)), (2, .int y), (3, .int v), (4, .int g), (5, .ref w0)] := hl
  refine lv_aload hx hb dLaw_transact_0 (lv_at hl 5 rfl) ?_
  refine lv_iconst (v := 0) hx hb dLaw_transact_2 (by decide) ?_
  refine lv_aload_n hx hb dLaw_transact_3 rfl (lv_at hl 0 rfl) ?_
  refine lv_iload_n hx hb dLaw_transact_4 rfl (lv_at hl 1 rfl) ?_
  refine lv_iload_n hx hb dLaw_transact_5 rfl (lv_at hl 2 rfl) ?_
  refine lv_iload_n hx hb dLaw_transact_6 rfl (lv_at hl 3 rfl) ?_
  refine lv_iload hx hb dLaw_transact_7 (lv_at hl 4 rfl) ?_
  refine XT.callV (As := [.int (nI a), .int y, .int v, .int g]) (rest := [.int 0, .ref w0]) stY_ok ⟨hx, hb, hml, hown, hts⟩ (kT_trans4 l hl0 dC dI kI kJ kZ x0 qc qb qs qk r0 lu lr qb1 nA bal a y v g (by first | assumption | omega) (by first | assumption | omega) (by first | assumption | omega) (by first | assumption | omega) (by first | assumption | omega) (by first | assumption | omega)) (cwV 4 hts (x_gV gw437 gw438 gw439 gw36 gw440) rfl rfl rfl (by decide +kernel) ⟨Nat.le_of_ble_eq_true rfl, Nat.le_of_ble_eq_true rfl⟩) hK hP hD hS hA hX [0, 1, 2] rfl (by decide) rfl rfl rfl rfl hl.1 (Nat.le_of_ble_eq_true rfl) dLaw_transact_9 ⟨Nat.le_of_ble_eq_true rfl, Nat.le_of_ble_eq_true rfl⟩ (fun q9 ce H locs hP hS hce hcv hcl => ?_)
  refine vx_catch (own := RLaw) (name := nIAE) (E := nIAE) hown [⟨0, 14, 17, 19⟩] ⟨0, 14, 21, 13⟩ [] (htab.trans rfl) (fun z9 hz9 => by rw [List.mem_singleton.mp hz9]; exact Or.inr ⟨(by decide : 19 ≠ 0), nIOB, (hts (.classLink RLaw 19 nIOB) (List.mem_cons_of_mem _ gw347)), hX.2.2.2.2.2.2⟩) (by decide) (by decide) (hts (.classLink RLaw 13 nIAE) (List.mem_cons_of_mem _ gw265)) (va_Nw.use rfl (hX.2.1 (.castable nIAE nIAE) (by decide))) hce hcv hcl ?_
  refine lv_astore (lv' := [(6, .ref q9), (0, .ref x0), (1, .int (nI a)), (2, .int y), (3, .int v), (4, .int g), (5, .ref w0)]) hx hb dLaw_transact_21 hl (by decide) rfl (fun ls hl => ?_)
  refine lv_iconst (v := 2) hx hb dLaw_transact_23 (by decide) ?_
  exact hret 2 (()) _ _ _ (rfl) (hP.sub [0, 1, 2, 3] rfl) (hD.sub [0, 1, 2, 3] (by decide) rfl) hS dLaw_transact_24

set_option maxHeartbeats 4000000 in
set_option maxRecDepth 100000 in
theorem kLaw_transact (l : Launch) (dC : Nat → ClassId) (dI : Nat → Nat → Nat) (kI kJ kZ : ClassId) (x0 : Nat) (qc : Nat) (qb : Nat) (qs : Nat) (qk : Nat) (r0 : Nat) (lu : Int32) (lr : Int32) (iv : Value) (rs : Nat) (ra : Nat) (rb : Nat) (f1 : Int32) (f2 : Int32) (f3 : Int32) (f4 : Int32) (f5 : Int32) (f6 : Int32) (f7 : Int32) (f8 : Int32) (f9 : Int32) (rs1 : Nat) (sf : Nat → Int32) (sn : Nat) (ra1 : Nat) (rf : Nat → Int32) (rn : Nat) (bb : Nat → Int32) (qb1 : Nat) (nA : Nat) (bal : Nat → Int32) (qs1 : Nat) (qs2 : Nat) (qs3 : Nat) (qs4 : Nat) (kn : Nat) (ch : Nat) (sl : Nat → Int64) (nu : Nat → Int32) (cs : Nat → Int64) (nb : Nat → Int32) (σ : Int64 → Int32) (qk1 : Nat) (lf : Nat → Int32) (ln : Nat) (qc1 : Nat) (qc2 : Nat) (qc3 : Nat) (cw : Nat → Int32) (lc : Nat → Nat) (z : Nat → Bool) (fr : Nat) (ac : Nat) (v : Int32) (g0 : Nat) (pl : va_W) (d : Nat) (w0 : Nat) (fo : Nat → Int64) (hsn : sn ≤ 32) (hrn : rn ≤ 8) (hnA : nA ≤ 24) (hfr : fr < nA) (hac : ac < nA) (hv : ¬ v < 0) (hvb : ¬ bal fr < v) (hln : ln ≤ 300) (hst : ST sl nu kn σ) (hcd : xCode cw lc z) (hchn : xChain kI qc qb qs qk d iv pl) (hg : g0 ≤ 10000) :
    XM stY l yLaw_transact wLaw_transact { frames := 28 + 4 * d, cells := 0, slots := 0, locals := 700 + 120 * d } (dC, dI) xCl (x_T kI kJ kZ) ([(x0, .inr (5, [.ref qc, .ref qb, .ref qs, .ref qk, .ref r0, .int lu, .int lr])), (r0, .inr (3, [.ref qc, .ref qb, .ref qs, .ref qk, iv, .ref rs, .ref ra, .ref rb, .int f1, .int f2, .int f3, .int f4, .int f5, .int f6, .int f7, .int f8, .int f9])), (rs, .inr (2, [.ref rs1, .int (nI sn)])), (rs1, .inl (kI, 32, .inl sf)), (ra, .inr (2, [.ref ra1, .int (nI rn)])), (ra1, .inl (kI, 8, .inl rf)), (rb, .inl (kI, 24, .inl bb)), (qb, .inr (0, [.ref qb1, .int (nI nA)])), (qb1, .inl (kI, 24, .inl bal)), (qs, .inr (4, [.ref qs1, .ref qs2, .int (nI kn), .ref qs3, .ref qs4, .int (nI ch)])), (qs1, .inl (kJ, 500, .inr (.inl sl))), (qs2, .inl (kI, 500, .inl nu)), (qs3, .inl (kJ, 500, .inr (.inl cs))), (qs4, .inl (kI, 500, .inl nb)), (qk, .inr (2, [.ref qk1, .int (nI ln)])), (qk1, .inl (kI, 300, .inl lf)), (qc, .inr (1, [.ref qc1, .ref qc2, .ref qc3])), (qc1, .inl (kI, 3840, .inl cw)), (qc2, .inl (kI, 24, .inl (fun j => nI (lc j)))), (qc3, .inl (kZ, 24, .inl (fun j => x_b (z j)))), (w0, .inl (kJ, 1, .inr (.inl fo)))] ++ pl) [.ref x0, .int (nI fr), .int (nI ac), .int v, .int (nI g0), .ref w0] 0 0 x_eI (fun (r : Int32) (u : Nat × Nat × Int32 × Int32 × (Nat → Int32) × Nat × (Nat → Int32) × (Nat → Int64) × (Nat → Int32) × Nat × (Nat → Int64) × (Nat → Int32) × Nat × (Nat → Int32) × Nat × (Int64 → Int32) × (Nat → Int64) × va_W) => (r = 0) ∧ (xRes (xGo cw lc z nA d fr ac v g0 rf rn (bal, σ, kn, lf, ln)) u.2.2.1 u.2.2.2.1 u.1) ∧ (SEq nA (u.2.2.2.2.2.2.1, u.2.2.2.2.2.2.2.2.2.2.2.2.2.2.2.1, u.2.2.2.2.2.2.2.2.2.1, u.2.2.2.2.2.2.2.2.2.2.2.2.2.1, u.2.2.2.2.2.2.2.2.2.2.2.2.2.2.1) (xGo cw lc z nA d fr ac v g0 rf rn (bal, σ, kn, lf, ln)).2.2.2) ∧ (ST u.2.2.2.2.2.2.2.1 u.2.2.2.2.2.2.2.2.1 u.2.2.2.2.2.2.2.2.2.1 u.2.2.2.2.2.2.2.2.2.2.2.2.2.2.2.1) ∧ (xBnd u.2.2.2.2.2.1 u.1 u.2.2.2.2.2.2.2.2.2.2.2.2.2.2.1 u.2.2.2.2.2.2.2.2.2.2.2.2.1 g0 0) ∧ (xChain kI qc qb qs qk d iv u.2.2.2.2.2.2.2.2.2.2.2.2.2.2.2.2.2) ∧ (u.2.2.2.2.2.2.2.2.2.2.2.2.2.2.2.2.1 = vp_updL fo 0 (Int32.toInt64 u.2.2.1))) (fun (u : Nat × Nat × Int32 × Int32 × (Nat → Int32) × Nat × (Nat → Int32) × (Nat → Int64) × (Nat → Int32) × Nat × (Nat → Int64) × (Nat → Int32) × Nat × (Nat → Int32) × Nat × (Int64 → Int32) × (Nat → Int64) × va_W) => ([(x0, .inr (5, [.ref qc, .ref qb, .ref qs, .ref qk, .ref r0, .int (nI (g0 - u.1)), .int u.2.2.2.1])), (r0, .inr (3, [.ref qc, .ref qb, .ref qs, .ref qk, iv, .ref rs, .ref ra, .ref rb, .int (nI 0), .int (nI ln), .int (nI ac), .int (nI fr), .int v, .int (nI u.1), .int (nI u.2.1), .int u.2.2.1, .int u.2.2.2.1])), (rs, .inr (2, [.ref rs1, .int (nI u.2.2.2.2.2.1)])), (rs1, .inl (kI, 32, .inl u.2.2.2.2.1)), (ra, .inr (2, [.ref ra1, .int (nI 0)])), (ra1, .inl (kI, 8, .inl rf)), (rb, .inl (kI, 24, .inl (va_cpy bal bb 0 0 nA))), (qb, .inr (0, [.ref qb1, .int (nI nA)])), (qb1, .inl (kI, 24, .inl u.2.2.2.2.2.2.1)), (qs, .inr (4, [.ref qs1, .ref qs2, .int (nI u.2.2.2.2.2.2.2.2.2.1), .ref qs3, .ref qs4, .int (nI u.2.2.2.2.2.2.2.2.2.2.2.2.1)])), (qs1, .inl (kJ, 500, .inr (.inl u.2.2.2.2.2.2.2.1))), (qs2, .inl (kI, 500, .inl u.2.2.2.2.2.2.2.2.1)), (qs3, .inl (kJ, 500, .inr (.inl u.2.2.2.2.2.2.2.2.2.2.1))), (qs4, .inl (kI, 500, .inl u.2.2.2.2.2.2.2.2.2.2.2.1)), (qk, .inr (2, [.ref qk1, .int (nI u.2.2.2.2.2.2.2.2.2.2.2.2.2.2.1)])), (qk1, .inl (kI, 300, .inl u.2.2.2.2.2.2.2.2.2.2.2.2.2.1)), (qc, .inr (1, [.ref qc1, .ref qc2, .ref qc3])), (qc1, .inl (kI, 3840, .inl cw)), (qc2, .inl (kI, 24, .inl (fun j => nI (lc j)))), (qc3, .inl (kZ, 24, .inl (fun j => x_b (z j)))), (w0, .inl (kJ, 1, .inr (.inl u.2.2.2.2.2.2.2.2.2.2.2.2.2.2.2.2.1)))] ++ u.2.2.2.2.2.2.2.2.2.2.2.2.2.2.2.2.2)) := by
  refine XM.ofIW (cc := cLaw_transact) (maxL := 7) (hh := [(0, 14, 17, 19), (0, 14, 21, 13)]) (by decide) rfl (by first | exact Nat.le_of_ble_eq_true rfl | (dsimp only; omega)) ?_
  intro p e s m below meth c A Q hx hb hr hml hown hts hlocks hin htab hA hK hP hD hX hS ls hl hret
  have hl : lv_has ls 7 [(0, .ref x0), (1, .int (nI fr)), (2, .int (nI ac)), (3, .int v), (4, .int (nI g0)), (5, .ref w0)] := hl
  refine lv_aload hx hb dLaw_transact_0 (lv_at hl 5 rfl) ?_
  refine lv_iconst (v := 0) hx hb dLaw_transact_2 (by decide) ?_
  refine lv_aload_n hx hb dLaw_transact_3 rfl (lv_at hl 0 rfl) ?_
  refine lv_iload_n hx hb dLaw_transact_4 rfl (lv_at hl 1 rfl) ?_
  refine lv_iload_n hx hb dLaw_transact_5 rfl (lv_at hl 2 rfl) ?_
  refine lv_iload_n hx hb dLaw_transact_6 rfl (lv_at hl 3 rfl) ?_
  refine lv_iload hx hb dLaw_transact_7 (lv_at hl 4 rfl) ?_
  refine XM.callVPi (As := [.int (nI fr), .int (nI ac), .int v, .int (nI g0)]) (rest := [.int 0, .ref w0]) (wr := [(w0, .inl (kJ, 1, .inr (.inl fo)))]) stX_ok ⟨hx, hb, hml, hown, hts⟩ (kLed_transact l dC dI kI kJ kZ x0 qc qb qs qk r0 lu lr iv rs ra rb f1 f2 f3 f4 f5 f6 f7 f8 f9 rs1 sf sn ra1 rf rn bb qb1 nA bal qs1 qs2 qs3 qs4 kn ch sl nu cs nb σ qk1 lf ln qc1 qc2 qc3 cw lc z fr ac v g0 pl d (by first | assumption | omega) (by first | assumption | omega) (by first | assumption | omega) (by first | assumption | omega) (by first | assumption | omega) (by first | assumption | omega) (by first | assumption | omega) (by first | assumption | omega) (by first | assumption | omega) (by first | assumption | omega) (by first | assumption | omega) (by first | assumption | omega)) (cwV 4 hts (x_gV gw437 gw438 gw439 gw36 gw440) rfl rfl rfl (by decide +kernel) ⟨(by first | exact Nat.le_of_ble_eq_true rfl | (dsimp only; omega)), (by first | exact Nat.le_of_ble_eq_true rfl | (dsimp only; omega))⟩) hK hP hD hS hA hX.1 [0, 1, 2, 3, 4, 5, 6, 7, 8, 9, 10, 11, 12, 13, 14, 15, 16, 17, 18, 19] [20] rfl rfl (by decide) (by decide) (by decide) rfl rfl rfl rfl hl.1 (by first | exact Nat.le_of_ble_eq_true rfl | (dsimp only; omega)) dLaw_transact_9 ⟨(by first | exact Nat.le_of_ble_eq_true rfl | (dsimp only; omega)), (by first | exact Nat.le_of_ble_eq_true rfl | (dsimp only; omega))⟩ (fun r_2 u_1 H locs hw hP hD hS => ?_)
  obtain ⟨gs2_3, pk2_4, en2_5, an2_6, sf2_7, sn2_8, bal2_9, sl2_10, nu2_11, kn2_12, cs2_13, nb2_14, ch2_15, lf2_16, ln2_17, σ2_18, pl2_19⟩ := u_1
  try dsimp only at hw
  obtain ⟨hE_20, hwxRes, hwSEq, hwST, hwxBnd, hwxChain⟩ := hw
  replace hE_20 := Eq.symm hE_20; subst hE_20
  have hP : va_P (dC, dI) xCl ([(w0, .inl (kJ, 1, .inr (.inl fo))), (x0, .inr (5, [.ref qc, .ref qb, .ref qs, .ref qk, .ref r0, .int (nI (g0 - gs2_3)), .int an2_6])), (r0, .inr (3, [.ref qc, .ref qb, .ref qs, .ref qk, iv, .ref rs, .ref ra, .ref rb, .int (nI 0), .int (nI ln), .int (nI ac), .int (nI fr), .int v, .int (nI gs2_3), .int (nI pk2_4), .int en2_5, .int an2_6])), (rs, .inr (2, [.ref rs1, .int (nI sn2_8)])), (rs1, .inl (kI, 32, .inl sf2_7)), (ra, .inr (2, [.ref ra1, .int (nI 0)])), (ra1, .inl (kI, 8, .inl rf)), (rb, .inl (kI, 24, .inl (va_cpy bal bb 0 0 nA))), (qb, .inr (0, [.ref qb1, .int (nI nA)])), (qb1, .inl (kI, 24, .inl bal2_9)), (qs, .inr (4, [.ref qs1, .ref qs2, .int (nI kn2_12), .ref qs3, .ref qs4, .int (nI ch2_15)])), (qs1, .inl (kJ, 500, .inr (.inl sl2_10))), (qs2, .inl (kI, 500, .inl nu2_11)), (qs3, .inl (kJ, 500, .inr (.inl cs2_13))), (qs4, .inl (kI, 500, .inl nb2_14)), (qk, .inr (2, [.ref qk1, .int (nI ln2_17)])), (qk1, .inl (kI, 300, .inl lf2_16)), (qc, .inr (1, [.ref qc1, .ref qc2, .ref qc3])), (qc1, .inl (kI, 3840, .inl cw)), (qc2, .inl (kI, 24, .inl (fun j => nI (lc j)))), (qc3, .inl (kZ, 24, .inl (fun j => x_b (z j))))] ++ pl2_19) H := hP
  have hD : va_D A ([(w0, .inl (kJ, 1, .inr (.inl fo))), (x0, .inr (5, [.ref qc, .ref qb, .ref qs, .ref qk, .ref r0, .int (nI (g0 - gs2_3)), .int an2_6])), (r0, .inr (3, [.ref qc, .ref qb, .ref qs, .ref qk, iv, .ref rs, .ref ra, .ref rb, .int (nI 0), .int (nI ln), .int (nI ac), .int (nI fr), .int v, .int (nI gs2_3), .int (nI pk2_4), .int en2_5, .int an2_6])), (rs, .inr (2, [.ref rs1, .int (nI sn2_8)])), (rs1, .inl (kI, 32, .inl sf2_7)), (ra, .inr (2, [.ref ra1, .int (nI 0)])), (ra1, .inl (kI, 8, .inl rf)), (rb, .inl (kI, 24, .inl (va_cpy bal bb 0 0 nA))), (qb, .inr (0, [.ref qb1, .int (nI nA)])), (qb1, .inl (kI, 24, .inl bal2_9)), (qs, .inr (4, [.ref qs1, .ref qs2, .int (nI kn2_12), .ref qs3, .ref qs4, .int (nI ch2_15)])), (qs1, .inl (kJ, 500, .inr (.inl sl2_10))), (qs2, .inl (kI, 500, .inl nu2_11)), (qs3, .inl (kJ, 500, .inr (.inl cs2_13))), (qs4, .inl (kI, 500, .inl nb2_14)), (qk, .inr (2, [.ref qk1, .int (nI ln2_17)])), (qk1, .inl (kI, 300, .inl lf2_16)), (qc, .inr (1, [.ref qc1, .ref qc2, .ref qc3])), (qc1, .inl (kI, 3840, .inl cw)), (qc2, .inl (kI, 24, .inl (fun j => nI (lc j)))), (qc3, .inl (kZ, 24, .inl (fun j => x_b (z j))))] ++ pl2_19) := hD
  refine lv_i2l (v := en2_5.toInt64) hx hb dLaw_transact_12 rfl ?_
  refine x_last (j := 0) hx hb hK hP hD hS 0 1 rfl rfl rfl (by omega) (by omega) dLaw_transact_13 (fun H locs hP hD hS => ?_)
  have hP : va_P (dC, dI) xCl ([(w0, .inl (kJ, 1, .inr (.inl (vp_updL fo 0 en2_5.toInt64)))), (x0, .inr (5, [.ref qc, .ref qb, .ref qs, .ref qk, .ref r0, .int (nI (g0 - gs2_3)), .int an2_6])), (r0, .inr (3, [.ref qc, .ref qb, .ref qs, .ref qk, iv, .ref rs, .ref ra, .ref rb, .int (nI 0), .int (nI ln), .int (nI ac), .int (nI fr), .int v, .int (nI gs2_3), .int (nI pk2_4), .int en2_5, .int an2_6])), (rs, .inr (2, [.ref rs1, .int (nI sn2_8)])), (rs1, .inl (kI, 32, .inl sf2_7)), (ra, .inr (2, [.ref ra1, .int (nI 0)])), (ra1, .inl (kI, 8, .inl rf)), (rb, .inl (kI, 24, .inl (va_cpy bal bb 0 0 nA))), (qb, .inr (0, [.ref qb1, .int (nI nA)])), (qb1, .inl (kI, 24, .inl bal2_9)), (qs, .inr (4, [.ref qs1, .ref qs2, .int (nI kn2_12), .ref qs3, .ref qs4, .int (nI ch2_15)])), (qs1, .inl (kJ, 500, .inr (.inl sl2_10))), (qs2, .inl (kI, 500, .inl nu2_11)), (qs3, .inl (kJ, 500, .inr (.inl cs2_13))), (qs4, .inl (kI, 500, .inl nb2_14)), (qk, .inr (2, [.ref qk1, .int (nI ln2_17)])), (qk1, .inl (kI, 300, .inl lf2_16)), (qc, .inr (1, [.ref qc1, .ref qc2, .ref qc3])), (qc1, .inl (kI, 3840, .inl cw)), (qc2, .inl (kI, 24, .inl (fun j => nI (lc j)))), (qc3, .inl (kZ, 24, .inl (fun j => x_b (z j))))] ++ pl2_19) H := hP
  have hD : va_D A ([(w0, .inl (kJ, 1, .inr (.inl (vp_updL fo 0 en2_5.toInt64)))), (x0, .inr (5, [.ref qc, .ref qb, .ref qs, .ref qk, .ref r0, .int (nI (g0 - gs2_3)), .int an2_6])), (r0, .inr (3, [.ref qc, .ref qb, .ref qs, .ref qk, iv, .ref rs, .ref ra, .ref rb, .int (nI 0), .int (nI ln), .int (nI ac), .int (nI fr), .int v, .int (nI gs2_3), .int (nI pk2_4), .int en2_5, .int an2_6])), (rs, .inr (2, [.ref rs1, .int (nI sn2_8)])), (rs1, .inl (kI, 32, .inl sf2_7)), (ra, .inr (2, [.ref ra1, .int (nI 0)])), (ra1, .inl (kI, 8, .inl rf)), (rb, .inl (kI, 24, .inl (va_cpy bal bb 0 0 nA))), (qb, .inr (0, [.ref qb1, .int (nI nA)])), (qb1, .inl (kI, 24, .inl bal2_9)), (qs, .inr (4, [.ref qs1, .ref qs2, .int (nI kn2_12), .ref qs3, .ref qs4, .int (nI ch2_15)])), (qs1, .inl (kJ, 500, .inr (.inl sl2_10))), (qs2, .inl (kI, 500, .inl nu2_11)), (qs3, .inl (kJ, 500, .inr (.inl cs2_13))), (qs4, .inl (kI, 500, .inl nb2_14)), (qk, .inr (2, [.ref qk1, .int (nI ln2_17)])), (qk1, .inl (kI, 300, .inl lf2_16)), (qc, .inr (1, [.ref qc1, .ref qc2, .ref qc3])), (qc1, .inl (kI, 3840, .inl cw)), (qc2, .inl (kI, 24, .inl (fun j => nI (lc j)))), (qc3, .inl (kZ, 24, .inl (fun j => x_b (z j))))] ++ pl2_19) := hD
  refine lv_goto (tgt := 25) hx hb dLaw_transact_14 (by decide) ?_
  refine lv_iconst (v := 0) hx hb dLaw_transact_25 (by decide) ?_
  have hP9 : va_P (dC, dI) xCl ([(x0, .inr (5, [.ref qc, .ref qb, .ref qs, .ref qk, .ref r0, .int (nI (g0 - gs2_3)), .int an2_6])), (r0, .inr (3, [.ref qc, .ref qb, .ref qs, .ref qk, iv, .ref rs, .ref ra, .ref rb, .int (nI 0), .int (nI ln), .int (nI ac), .int (nI fr), .int v, .int (nI gs2_3), .int (nI pk2_4), .int en2_5, .int an2_6])), (rs, .inr (2, [.ref rs1, .int (nI sn2_8)])), (rs1, .inl (kI, 32, .inl sf2_7)), (ra, .inr (2, [.ref ra1, .int (nI 0)])), (ra1, .inl (kI, 8, .inl rf)), (rb, .inl (kI, 24, .inl (va_cpy bal bb 0 0 nA))), (qb, .inr (0, [.ref qb1, .int (nI nA)])), (qb1, .inl (kI, 24, .inl bal2_9)), (qs, .inr (4, [.ref qs1, .ref qs2, .int (nI kn2_12), .ref qs3, .ref qs4, .int (nI ch2_15)])), (qs1, .inl (kJ, 500, .inr (.inl sl2_10))), (qs2, .inl (kI, 500, .inl nu2_11)), (qs3, .inl (kJ, 500, .inr (.inl cs2_13))), (qs4, .inl (kI, 500, .inl nb2_14)), (qk, .inr (2, [.ref qk1, .int (nI ln2_17)])), (qk1, .inl (kI, 300, .inl lf2_16)), (qc, .inr (1, [.ref qc1, .ref qc2, .ref qc3])), (qc1, .inl (kI, 3840, .inl cw)), (qc2, .inl (kI, 24, .inl (fun j => nI (lc j)))), (qc3, .inl (kZ, 24, .inl (fun j => x_b (z j)))), (w0, .inl (kJ, 1, .inr (.inl (vp_updL fo 0 en2_5.toInt64))))] ++ pl2_19) _ := hP.part (cx := [(x0, .inr (5, [.ref qc, .ref qb, .ref qs, .ref qk, .ref r0, .int (nI (g0 - gs2_3)), .int an2_6])), (r0, .inr (3, [.ref qc, .ref qb, .ref qs, .ref qk, iv, .ref rs, .ref ra, .ref rb, .int (nI 0), .int (nI ln), .int (nI ac), .int (nI fr), .int v, .int (nI gs2_3), .int (nI pk2_4), .int en2_5, .int an2_6])), (rs, .inr (2, [.ref rs1, .int (nI sn2_8)])), (rs1, .inl (kI, 32, .inl sf2_7)), (ra, .inr (2, [.ref ra1, .int (nI 0)])), (ra1, .inl (kI, 8, .inl rf)), (rb, .inl (kI, 24, .inl (va_cpy bal bb 0 0 nA))), (qb, .inr (0, [.ref qb1, .int (nI nA)])), (qb1, .inl (kI, 24, .inl bal2_9)), (qs, .inr (4, [.ref qs1, .ref qs2, .int (nI kn2_12), .ref qs3, .ref qs4, .int (nI ch2_15)])), (qs1, .inl (kJ, 500, .inr (.inl sl2_10))), (qs2, .inl (kI, 500, .inl nu2_11)), (qs3, .inl (kJ, 500, .inr (.inl cs2_13))), (qs4, .inl (kI, 500, .inl nb2_14)), (qk, .inr (2, [.ref qk1, .int (nI ln2_17)])), (qk1, .inl (kI, 300, .inl lf2_16)), (qc, .inr (1, [.ref qc1, .ref qc2, .ref qc3])), (qc1, .inl (kI, 3840, .inl cw)), (qc2, .inl (kI, 24, .inl (fun j => nI (lc j)))), (qc3, .inl (kZ, 24, .inl (fun j => x_b (z j)))), (w0, .inl (kJ, 1, .inr (.inl (vp_updL fo 0 en2_5.toInt64))))]) [1, 2, 3, 4, 5, 6, 7, 8, 9, 10, 11, 12, 13, 14, 15, 16, 17, 18, 19, 20, 0] rfl
  have hD9 : va_D A ([(x0, .inr (5, [.ref qc, .ref qb, .ref qs, .ref qk, .ref r0, .int (nI (g0 - gs2_3)), .int an2_6])), (r0, .inr (3, [.ref qc, .ref qb, .ref qs, .ref qk, iv, .ref rs, .ref ra, .ref rb, .int (nI 0), .int (nI ln), .int (nI ac), .int (nI fr), .int v, .int (nI gs2_3), .int (nI pk2_4), .int en2_5, .int an2_6])), (rs, .inr (2, [.ref rs1, .int (nI sn2_8)])), (rs1, .inl (kI, 32, .inl sf2_7)), (ra, .inr (2, [.ref ra1, .int (nI 0)])), (ra1, .inl (kI, 8, .inl rf)), (rb, .inl (kI, 24, .inl (va_cpy bal bb 0 0 nA))), (qb, .inr (0, [.ref qb1, .int (nI nA)])), (qb1, .inl (kI, 24, .inl bal2_9)), (qs, .inr (4, [.ref qs1, .ref qs2, .int (nI kn2_12), .ref qs3, .ref qs4, .int (nI ch2_15)])), (qs1, .inl (kJ, 500, .inr (.inl sl2_10))), (qs2, .inl (kI, 500, .inl nu2_11)), (qs3, .inl (kJ, 500, .inr (.inl cs2_13))), (qs4, .inl (kI, 500, .inl nb2_14)), (qk, .inr (2, [.ref qk1, .int (nI ln2_17)])), (qk1, .inl (kI, 300, .inl lf2_16)), (qc, .inr (1, [.ref qc1, .ref qc2, .ref qc3])), (qc1, .inl (kI, 3840, .inl cw)), (qc2, .inl (kI, 24, .inl (fun j => nI (lc j)))), (qc3, .inl (kZ, 24, .inl (fun j => x_b (z j)))), (w0, .inl (kJ, 1, .inr (.inl (vp_updL fo 0 en2_5.toInt64))))] ++ pl2_19) := hD.part (cx := [(x0, .inr (5, [.ref qc, .ref qb, .ref qs, .ref qk, .ref r0, .int (nI (g0 - gs2_3)), .int an2_6])), (r0, .inr (3, [.ref qc, .ref qb, .ref qs, .ref qk, iv, .ref rs, .ref ra, .ref rb, .int (nI 0), .int (nI ln), .int (nI ac), .int (nI fr), .int v, .int (nI gs2_3), .int (nI pk2_4), .int en2_5, .int an2_6])), (rs, .inr (2, [.ref rs1, .int (nI sn2_8)])), (rs1, .inl (kI, 32, .inl sf2_7)), (ra, .inr (2, [.ref ra1, .int (nI 0)])), (ra1, .inl (kI, 8, .inl rf)), (rb, .inl (kI, 24, .inl (va_cpy bal bb 0 0 nA))), (qb, .inr (0, [.ref qb1, .int (nI nA)])), (qb1, .inl (kI, 24, .inl bal2_9)), (qs, .inr (4, [.ref qs1, .ref qs2, .int (nI kn2_12), .ref qs3, .ref qs4, .int (nI ch2_15)])), (qs1, .inl (kJ, 500, .inr (.inl sl2_10))), (qs2, .inl (kI, 500, .inl nu2_11)), (qs3, .inl (kJ, 500, .inr (.inl cs2_13))), (qs4, .inl (kI, 500, .inl nb2_14)), (qk, .inr (2, [.ref qk1, .int (nI ln2_17)])), (qk1, .inl (kI, 300, .inl lf2_16)), (qc, .inr (1, [.ref qc1, .ref qc2, .ref qc3])), (qc1, .inl (kI, 3840, .inl cw)), (qc2, .inl (kI, 24, .inl (fun j => nI (lc j)))), (qc3, .inl (kZ, 24, .inl (fun j => x_b (z j)))), (w0, .inl (kJ, 1, .inr (.inl (vp_updL fo 0 en2_5.toInt64))))]) [1, 2, 3, 4, 5, 6, 7, 8, 9, 10, 11, 12, 13, 14, 15, 16, 17, 18, 19, 20, 0] (by decide) rfl
  exact hret 0 ((gs2_3, pk2_4, en2_5, an2_6, sf2_7, sn2_8, bal2_9, sl2_10, nu2_11, kn2_12, cs2_13, nb2_14, ch2_15, lf2_16, ln2_17, σ2_18, vp_updL fo 0 en2_5.toInt64, pl2_19)) _ _ _ (⟨rfl, hwxRes, hwSEq, hwST, hwxBnd, hwxChain, rfl⟩) hP9 hD9 hS dLaw_transact_26

