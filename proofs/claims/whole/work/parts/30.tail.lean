/-! worlds with a tail (cells of any number behind the known ones): calls that do not touch it (Q), calls that take it along (P) -/
section XTail
variable {X : (Nat → Prop) → State → Prop} {ρ S : Type} {p : Program} {l : Launch} {e : Env} {R : Room} {s : State} {m : MethodId} {args : Array Value} {below : List Frame} {meth : Method} {c : Code} {H : Heap} {locs : List Loc} {cells slots : Nat} {Q : State → Prop}
  {y : MethodName} {cw : List Cond} {rm : Room} {D : va_G} {cl : List vw_C} {tys : List (ClassId × FieldType)} {ws wc wr pl : va_W} {mc ms n maxL nL index pc : Nat} {cc bytes : ByteArray} {ret : Option FieldType} {enc : ρ → Option Value} {post : ρ → S → Prop} {w1 rx px : S → va_W} {Ts : List Cond} {own Cn host : String} {A : Nat → Prop} {b ci : Nat} {As rest st0 : List Value} {fs : List Value} {ls : Array Slot} {av : List Value} {T : u_T} {N : Nat}
theorem x_fstP (h : va_P D cl (ws ++ pl) H) : va_P D cl ws H := fun k q hk => h k q (by rw [List.getElem?_append_left (List.getElem?_eq_some_iff.mp hk).1]; exact hk)
theorem x_fstD (h : va_D A (ws ++ pl)) : va_D A ws := ⟨fun i j x y hi hj hxy => h.1 i j x y (by rw [List.getElem?_append_left (List.getElem?_eq_some_iff.mp hi).1]; exact hi) (by rw [List.getElem?_append_left (List.getElem?_eq_some_iff.mp hj).1]; exact hj) hxy, fun k q hk => h.2 k q (by rw [List.getElem?_append_left (List.getElem?_eq_some_iff.mp hk).1]; exact hk)⟩
theorem XM.backQ (hXk : x_ok X) (hM : XM X l y cw rm D cl tys wc av mc ms enc post w1) (hK : va_K D cl tys s) (hP : va_P D cl (ws ++ pl) H) (hD : va_D A (ws ++ pl)) (hS : va_S A s.heap H locs) (hA : ∀ q : Nat, s.heap.size ≤ q → A q) (hX : X A s)
    (isC isR : List Nat) (hC : isC.map (fun i => ws[i]?) = wc.map some) (hR : isR.map (fun i => ws[i]?) = wr.map some) (hn1 : va_nd isC = true) (hn2 : va_nd isR = true) (hdis : ∀ i ∈ isR, i ∉ isC)
    (run : ∀ (Pc : Array Value → State → Prop) (Qc : Array Value → State → Outcome → State → Prop), Met l y cw rm Pc Qc mc ms (va_A wc H.size) → FrameBlind Pc → (∀ U : State, U.heap = H → s.WarmedH U.vm → Pc av.toArray U) → va_Run p l e R s m args below meth c H locs cells slots mc ms (F0 m pc ls st0) rest (Qc av.toArray) (va_A wc H.size))
    (kk : ∀ (r : ρ) (u : S) (H1 : Heap) (locs1 : List Loc), post r u → va_P D cl ((wr ++ w1 u) ++ pl) H1 → va_D A ((wr ++ w1 u) ++ pl) → va_S A s.heap H1 locs1 → W p l e R s m args below meth c H1 locs1 (cells + mc) (slots + ms) Q (F0 m (pc + 3) ls ((enc r).toList ++ rest))) :
    W p l e R s m args below meth c H locs cells slots Q (F0 m pc ls st0) := by
  have hPc := x_cut (x_fstP hP) isC hC
  have hDc : va_D A wc := (x_fstD hD).sub isC hn1 hC
  have hF : ∀ q, va_A wc H.size q → A q := va_free (x_fstD hD) hS hA isC hC
  have rn := run _ _ (hM H.size) (fun a U g mk q => by
      obtain ⟨q0, q1, qP, qK, qD, qX⟩ := q
      exact ⟨q0, q1, qP, va_K.moved (u := U) (U := U.calling g mk a) (Vm.Alike.refl U.vm) qK, qD, hXk _ _ U (U.calling g mk a) qX (fun _ h => h) (fun _ _ _ => rfl) (State.WarmedH.refl U)⟩)
    (fun U hU hW => ⟨rfl, by rw [hU], by rw [hU]; exact hPc, va_K.moved hW.alike hK, hDc.weaken (fun _ _ _ _ => trivial), hXk _ _ s U hX hF (fun q h1 h2 => by rw [hU]; exact hS.2.1 q h1 h2) hW⟩)
  intro T0 hT X0
  obtain ⟨v, st₀, t, T', L, h0, X', hL, e1, e2, ⟨⟨r, u, hv, hp, hP1, hK1, hD1⟩, hFr⟩, st⟩ := rn T0 hT X0
  cases hv
  obtain ⟨j1, j2⟩ := va_joinQ (H1 := T'.heap) hP hD isC isR hC hR hn2 hdis (fun q h1 h2 => by rw [e1, hFr.2 q (by rw [h0]; exact h1) h2, h0]) hF (by rw [e1]; exact hP1) hD1
  have hS1 : va_S A s.heap T'.heap (locs ++ L) := by
    refine ⟨Nat.le_trans hS.1 (by rw [e1, ← h0]; exact hFr.1), fun q h1 h2 => ?_, fun q hq => ?_⟩
    · rw [e1, hFr.2 q (by rw [h0]; exact Nat.lt_of_lt_of_le h1 hS.1) (fun z => h2 (hF q z)), h0]
      exact hS.2.1 q h1 h2
    · rcases List.mem_append.mp hq with hq | hq
      · exact hS.2.2 q hq
      · exact hF _ (hL q hq)
  obtain ⟨t2, a1, b1⟩ := kk r u T'.heap _ hp j1 j2 hS1 T' rfl X'
  exact ⟨t2, st t2 a1, b1⟩
theorem XM.backP (hXk : x_ok X) (hM : XM X l y cw rm D cl tys (wc ++ pl) av mc ms enc post (fun u => rx u ++ px u)) (hK : va_K D cl tys s) (hP : va_P D cl (ws ++ pl) H) (hD : va_D A (ws ++ pl)) (hS : va_S A s.heap H locs) (hA : ∀ q : Nat, s.heap.size ≤ q → A q) (hX : X A s)
    (isC isR : List Nat) (hC : isC.map (fun i => ws[i]?) = wc.map some) (hR : isR.map (fun i => ws[i]?) = wr.map some) (hn1 : va_nd isC = true) (hn2 : va_nd isR = true) (hdis : ∀ i ∈ isR, i ∉ isC)
    (run : ∀ (Pc : Array Value → State → Prop) (Qc : Array Value → State → Outcome → State → Prop), Met l y cw rm Pc Qc mc ms (va_A (wc ++ pl) H.size) → FrameBlind Pc → (∀ U : State, U.heap = H → s.WarmedH U.vm → Pc av.toArray U) → va_Run p l e R s m args below meth c H locs cells slots mc ms (F0 m pc ls st0) rest (Qc av.toArray) (va_A (wc ++ pl) H.size))
    (kk : ∀ (r : ρ) (u : S) (H1 : Heap) (locs1 : List Loc), post r u → va_P D cl ((wr ++ rx u) ++ px u) H1 → va_D A ((wr ++ rx u) ++ px u) → va_S A s.heap H1 locs1 → W p l e R s m args below meth c H1 locs1 (cells + mc) (slots + ms) Q (F0 m (pc + 3) ls ((enc r).toList ++ rest))) :
    W p l e R s m args below meth c H locs cells slots Q (F0 m pc ls st0) := by
  have hPc : va_P D cl (wc ++ pl) H := hP.part isC hC
  have hDc : va_D A (wc ++ pl) := hD.part isC hn1 hC
  have hF : ∀ q, va_A (wc ++ pl) H.size q → A q := va_freeP hD hS hA isC hC
  have rn := run _ _ (hM H.size) (fun a U g mk q => by
      obtain ⟨q0, q1, qP, qK, qD, qX⟩ := q
      exact ⟨q0, q1, qP, va_K.moved (u := U) (U := U.calling g mk a) (Vm.Alike.refl U.vm) qK, qD, hXk _ _ U (U.calling g mk a) qX (fun _ h => h) (fun _ _ _ => rfl) (State.WarmedH.refl U)⟩)
    (fun U hU hW => ⟨rfl, by rw [hU], by rw [hU]; exact hPc, va_K.moved hW.alike hK, hDc.weaken (fun _ _ _ _ => trivial), hXk _ _ s U hX hF (fun q h1 h2 => by rw [hU]; exact hS.2.1 q h1 h2) hW⟩)
  intro T0 hT X0
  obtain ⟨v, st₀, t, T', L, h0, X', hL, e1, e2, ⟨⟨r, u, hv, hp, hP1, hK1, hD1⟩, hFr⟩, st⟩ := rn T0 hT X0
  cases hv
  obtain ⟨j1, j2⟩ := va_joinP (H1 := T'.heap) hP hD isC isR hC hR hn2 hdis (fun q h1 h2 => by rw [e1, hFr.2 q (by rw [h0]; exact h1) h2, h0]) hF (by rw [e1]; exact hP1) hD1
  have hS1 : va_S A s.heap T'.heap (locs ++ L) := by
    refine ⟨Nat.le_trans hS.1 (by rw [e1, ← h0]; exact hFr.1), fun q h1 h2 => ?_, fun q hq => ?_⟩
    · rw [e1, hFr.2 q (by rw [h0]; exact Nat.lt_of_lt_of_le h1 hS.1) (fun z => h2 (hF q z)), h0]
      exact hS.2.1 q h1 h2
    · rcases List.mem_append.mp hq with hq | hq
      · exact hS.2.2 q hq
      · exact hF _ (hL q hq)
  obtain ⟨t2, a1, b1⟩ := kk r u T'.heap _ hp j1 j2 hS1 T' rfl X'
  exact ⟨t2, st t2 a1, b1⟩
end XTail
section XTailCalls
variable {X : (Nat → Prop) → State → Prop} {S : Type} {p : Program} {l : Launch} {e : Env} {R : Room} {s : State} {m : MethodId} {args : Array Value} {below : List Frame} {meth : Method} {c : Code} {H : Heap} {locs : List Loc} {cells slots : Nat} {Q : State → Prop}
  {y : MethodName} {cw : List Cond} {rm : Room} {D : va_G} {cl : List vw_C} {tys : List (ClassId × FieldType)} {ws wc wr pl : va_W} {mc ms n maxL nL index pc : Nat} {cc bytes : ByteArray} {ret : Option FieldType} {w1 rx px : S → va_W} {Ts : List Cond} {own Cn host : String} {A : Nat → Prop} {b ci : Nat} {As rest st0 : List Value} {fs : List Value} {ls : Array Slot} {T : u_T} {N : Nat}
theorem XM.callVQi {post : Int32 → S → Prop} (hXk : x_ok X) (CF : CallFix p m c cc nL s args Ts own) (hM : XM X l y cw rm D cl tys wc (.ref b :: As) mc ms x_eI post w1) (hcw : CallW R s args own Cn index y bytes maxL ret cw rm mc ms n) (hK : va_K D cl tys s) (hP : va_P D cl (ws ++ pl) H) (hD : va_D A (ws ++ pl)) (hS : va_S A s.heap H locs) (hA : ∀ q : Nat, s.heap.size ≤ q → A q) (hX : X A s)
    (isC isR : List Nat) (hC : isC.map (fun i => ws[i]?) = wc.map some) (hR : isR.map (fun i => ws[i]?) = wr.map some) (hn1 : va_nd isC = true) (hn2 : va_nd isR = true) (hdis : ∀ i ∈ isR, i ∉ isC) (he : wc[0]? = some (b, .inr (ci, fs))) (hc : cl[ci]? = some (Cn, T, N)) (hn : As.length = n) (hst : st0 = As.reverse ++ .ref b :: rest) (hsize : ls.size = nL) (hW : (rest.map fun v => v.category).sum ≤ 8) (hdg : decode cc pc = .ok (.invokevirtual index, 3)) (hf : cells + mc ≤ R.cells ∧ slots + ms ≤ R.slots)
    (kk : ∀ (r : Int32) (u : S) (H1 : Heap) (locs1 : List Loc), post r u → va_P D cl ((wr ++ w1 u) ++ pl) H1 → va_D A ((wr ++ w1 u) ++ pl) → va_S A s.heap H1 locs1 → W p l e R s m args below meth c H1 locs1 (cells + mc) (slots + ms) Q (F0 m (pc + 3) ls (.int r :: rest))) :
    W p l e R s m args below meth c H locs cells slots Q (F0 m pc ls st0) := by
  refine XM.backQ (rest := rest) hXk hM hK hP hD hS hA hX isC isR hC hR hn1 hn2 hdis (fun Pc Qc hMet hbl hPc => ?_) (fun r u H1 locs1 h1 h2 h3 h4 => ?_)
  · exact va_runV (As := As) (rest := rest) CF hMet hcw ⟨hbl, va_recv hK (x_cut (x_fstP hP) isC hC) hc he, hPc⟩ rfl hn hsize hst (lv_room hW) hdg hf
  · exact kk r u H1 locs1 h1 h2 h3 h4
theorem XM.callVQl {post : Int64 → S → Prop} (hXk : x_ok X) (CF : CallFix p m c cc nL s args Ts own) (hM : XM X l y cw rm D cl tys wc (.ref b :: As) mc ms x_eL post w1) (hcw : CallW R s args own Cn index y bytes maxL ret cw rm mc ms n) (hK : va_K D cl tys s) (hP : va_P D cl (ws ++ pl) H) (hD : va_D A (ws ++ pl)) (hS : va_S A s.heap H locs) (hA : ∀ q : Nat, s.heap.size ≤ q → A q) (hX : X A s)
    (isC isR : List Nat) (hC : isC.map (fun i => ws[i]?) = wc.map some) (hR : isR.map (fun i => ws[i]?) = wr.map some) (hn1 : va_nd isC = true) (hn2 : va_nd isR = true) (hdis : ∀ i ∈ isR, i ∉ isC) (he : wc[0]? = some (b, .inr (ci, fs))) (hc : cl[ci]? = some (Cn, T, N)) (hn : As.length = n) (hst : st0 = As.reverse ++ .ref b :: rest) (hsize : ls.size = nL) (hW : (rest.map fun v => v.category).sum ≤ 8) (hdg : decode cc pc = .ok (.invokevirtual index, 3)) (hf : cells + mc ≤ R.cells ∧ slots + ms ≤ R.slots)
    (kk : ∀ (r : Int64) (u : S) (H1 : Heap) (locs1 : List Loc), post r u → va_P D cl ((wr ++ w1 u) ++ pl) H1 → va_D A ((wr ++ w1 u) ++ pl) → va_S A s.heap H1 locs1 → W p l e R s m args below meth c H1 locs1 (cells + mc) (slots + ms) Q (F0 m (pc + 3) ls (.long r :: rest))) :
    W p l e R s m args below meth c H locs cells slots Q (F0 m pc ls st0) := by
  refine XM.backQ (rest := rest) hXk hM hK hP hD hS hA hX isC isR hC hR hn1 hn2 hdis (fun Pc Qc hMet hbl hPc => ?_) (fun r u H1 locs1 h1 h2 h3 h4 => ?_)
  · exact va_runV (As := As) (rest := rest) CF hMet hcw ⟨hbl, va_recv hK (x_cut (x_fstP hP) isC hC) hc he, hPc⟩ rfl hn hsize hst (lv_room hW) hdg hf
  · exact kk r u H1 locs1 h1 h2 h3 h4
theorem XM.callVQv {post : Unit → S → Prop} (hXk : x_ok X) (CF : CallFix p m c cc nL s args Ts own) (hM : XM X l y cw rm D cl tys wc (.ref b :: As) mc ms x_eV post w1) (hcw : CallW R s args own Cn index y bytes maxL ret cw rm mc ms n) (hK : va_K D cl tys s) (hP : va_P D cl (ws ++ pl) H) (hD : va_D A (ws ++ pl)) (hS : va_S A s.heap H locs) (hA : ∀ q : Nat, s.heap.size ≤ q → A q) (hX : X A s)
    (isC isR : List Nat) (hC : isC.map (fun i => ws[i]?) = wc.map some) (hR : isR.map (fun i => ws[i]?) = wr.map some) (hn1 : va_nd isC = true) (hn2 : va_nd isR = true) (hdis : ∀ i ∈ isR, i ∉ isC) (he : wc[0]? = some (b, .inr (ci, fs))) (hc : cl[ci]? = some (Cn, T, N)) (hn : As.length = n) (hst : st0 = As.reverse ++ .ref b :: rest) (hsize : ls.size = nL) (hW : (rest.map fun v => v.category).sum ≤ 8) (hdg : decode cc pc = .ok (.invokevirtual index, 3)) (hf : cells + mc ≤ R.cells ∧ slots + ms ≤ R.slots)
    (kk : ∀ (u : S) (H1 : Heap) (locs1 : List Loc), post () u → va_P D cl ((wr ++ w1 u) ++ pl) H1 → va_D A ((wr ++ w1 u) ++ pl) → va_S A s.heap H1 locs1 → W p l e R s m args below meth c H1 locs1 (cells + mc) (slots + ms) Q (F0 m (pc + 3) ls (rest))) :
    W p l e R s m args below meth c H locs cells slots Q (F0 m pc ls st0) := by
  refine XM.backQ (rest := rest) hXk hM hK hP hD hS hA hX isC isR hC hR hn1 hn2 hdis (fun Pc Qc hMet hbl hPc => ?_) (fun r u H1 locs1 h1 h2 h3 h4 => ?_)
  · exact va_runV (As := As) (rest := rest) CF hMet hcw ⟨hbl, va_recv hK (x_cut (x_fstP hP) isC hC) hc he, hPc⟩ rfl hn hsize hst (lv_room hW) hdg hf
  · exact kk u H1 locs1 h1 h2 h3 h4
theorem XM.callVNQi {post : Int32 → S → Prop} (hXk : x_ok X) (CF : CallFix p m c cc nL s args Ts own) (hM : XM X l y cw rm D cl tys wc (.ref b :: As) mc ms x_eI post w1) (hcw : va_CN R s args own index y host bytes maxL ret cw rm mc ms n ∧ (Cond.instanceMethod y).before args s = true ∧ (Cond.selects Cn y y).before args s = true) (hK : va_K D cl tys s) (hP : va_P D cl (ws ++ pl) H) (hD : va_D A (ws ++ pl)) (hS : va_S A s.heap H locs) (hA : ∀ q : Nat, s.heap.size ≤ q → A q) (hX : X A s)
    (isC isR : List Nat) (hC : isC.map (fun i => ws[i]?) = wc.map some) (hR : isR.map (fun i => ws[i]?) = wr.map some) (hn1 : va_nd isC = true) (hn2 : va_nd isR = true) (hdis : ∀ i ∈ isR, i ∉ isC) (he : wc[0]? = some (b, .inr (ci, fs))) (hc : cl[ci]? = some (Cn, T, N)) (hn : As.length = n) (hst : st0 = As.reverse ++ .ref b :: rest) (hsize : ls.size = nL) (hW : (rest.map fun v => v.category).sum ≤ 8) (hdg : decode cc pc = .ok (.invokevirtual index, 3)) (hf : cells + mc ≤ R.cells ∧ slots + ms ≤ R.slots)
    (kk : ∀ (r : Int32) (u : S) (H1 : Heap) (locs1 : List Loc), post r u → va_P D cl ((wr ++ w1 u) ++ pl) H1 → va_D A ((wr ++ w1 u) ++ pl) → va_S A s.heap H1 locs1 → W p l e R s m args below meth c H1 locs1 (cells + mc) (slots + ms) Q (F0 m (pc + 3) ls (.int r :: rest))) :
    W p l e R s m args below meth c H locs cells slots Q (F0 m pc ls st0) := by
  refine XM.backQ (rest := rest) hXk hM hK hP hD hS hA hX isC isR hC hR hn1 hn2 hdis (fun Pc Qc hMet hbl hPc => ?_) (fun r u H1 locs1 h1 h2 h3 h4 => ?_)
  · exact va_runVN (As := As) (rest := rest) CF hMet hcw ⟨hbl, va_recv hK (x_cut (x_fstP hP) isC hC) hc he, hPc⟩ rfl hn hsize hst (lv_room hW) hdg hf
  · exact kk r u H1 locs1 h1 h2 h3 h4
theorem XM.callVNQl {post : Int64 → S → Prop} (hXk : x_ok X) (CF : CallFix p m c cc nL s args Ts own) (hM : XM X l y cw rm D cl tys wc (.ref b :: As) mc ms x_eL post w1) (hcw : va_CN R s args own index y host bytes maxL ret cw rm mc ms n ∧ (Cond.instanceMethod y).before args s = true ∧ (Cond.selects Cn y y).before args s = true) (hK : va_K D cl tys s) (hP : va_P D cl (ws ++ pl) H) (hD : va_D A (ws ++ pl)) (hS : va_S A s.heap H locs) (hA : ∀ q : Nat, s.heap.size ≤ q → A q) (hX : X A s)
    (isC isR : List Nat) (hC : isC.map (fun i => ws[i]?) = wc.map some) (hR : isR.map (fun i => ws[i]?) = wr.map some) (hn1 : va_nd isC = true) (hn2 : va_nd isR = true) (hdis : ∀ i ∈ isR, i ∉ isC) (he : wc[0]? = some (b, .inr (ci, fs))) (hc : cl[ci]? = some (Cn, T, N)) (hn : As.length = n) (hst : st0 = As.reverse ++ .ref b :: rest) (hsize : ls.size = nL) (hW : (rest.map fun v => v.category).sum ≤ 8) (hdg : decode cc pc = .ok (.invokevirtual index, 3)) (hf : cells + mc ≤ R.cells ∧ slots + ms ≤ R.slots)
    (kk : ∀ (r : Int64) (u : S) (H1 : Heap) (locs1 : List Loc), post r u → va_P D cl ((wr ++ w1 u) ++ pl) H1 → va_D A ((wr ++ w1 u) ++ pl) → va_S A s.heap H1 locs1 → W p l e R s m args below meth c H1 locs1 (cells + mc) (slots + ms) Q (F0 m (pc + 3) ls (.long r :: rest))) :
    W p l e R s m args below meth c H locs cells slots Q (F0 m pc ls st0) := by
  refine XM.backQ (rest := rest) hXk hM hK hP hD hS hA hX isC isR hC hR hn1 hn2 hdis (fun Pc Qc hMet hbl hPc => ?_) (fun r u H1 locs1 h1 h2 h3 h4 => ?_)
  · exact va_runVN (As := As) (rest := rest) CF hMet hcw ⟨hbl, va_recv hK (x_cut (x_fstP hP) isC hC) hc he, hPc⟩ rfl hn hsize hst (lv_room hW) hdg hf
  · exact kk r u H1 locs1 h1 h2 h3 h4
theorem XM.callVNQv {post : Unit → S → Prop} (hXk : x_ok X) (CF : CallFix p m c cc nL s args Ts own) (hM : XM X l y cw rm D cl tys wc (.ref b :: As) mc ms x_eV post w1) (hcw : va_CN R s args own index y host bytes maxL ret cw rm mc ms n ∧ (Cond.instanceMethod y).before args s = true ∧ (Cond.selects Cn y y).before args s = true) (hK : va_K D cl tys s) (hP : va_P D cl (ws ++ pl) H) (hD : va_D A (ws ++ pl)) (hS : va_S A s.heap H locs) (hA : ∀ q : Nat, s.heap.size ≤ q → A q) (hX : X A s)
    (isC isR : List Nat) (hC : isC.map (fun i => ws[i]?) = wc.map some) (hR : isR.map (fun i => ws[i]?) = wr.map some) (hn1 : va_nd isC = true) (hn2 : va_nd isR = true) (hdis : ∀ i ∈ isR, i ∉ isC) (he : wc[0]? = some (b, .inr (ci, fs))) (hc : cl[ci]? = some (Cn, T, N)) (hn : As.length = n) (hst : st0 = As.reverse ++ .ref b :: rest) (hsize : ls.size = nL) (hW : (rest.map fun v => v.category).sum ≤ 8) (hdg : decode cc pc = .ok (.invokevirtual index, 3)) (hf : cells + mc ≤ R.cells ∧ slots + ms ≤ R.slots)
    (kk : ∀ (u : S) (H1 : Heap) (locs1 : List Loc), post () u → va_P D cl ((wr ++ w1 u) ++ pl) H1 → va_D A ((wr ++ w1 u) ++ pl) → va_S A s.heap H1 locs1 → W p l e R s m args below meth c H1 locs1 (cells + mc) (slots + ms) Q (F0 m (pc + 3) ls (rest))) :
    W p l e R s m args below meth c H locs cells slots Q (F0 m pc ls st0) := by
  refine XM.backQ (rest := rest) hXk hM hK hP hD hS hA hX isC isR hC hR hn1 hn2 hdis (fun Pc Qc hMet hbl hPc => ?_) (fun r u H1 locs1 h1 h2 h3 h4 => ?_)
  · exact va_runVN (As := As) (rest := rest) CF hMet hcw ⟨hbl, va_recv hK (x_cut (x_fstP hP) isC hC) hc he, hPc⟩ rfl hn hsize hst (lv_room hW) hdg hf
  · exact kk u H1 locs1 h1 h2 h3 h4
theorem XM.callSQi {post : Int32 → S → Prop} (hXk : x_ok X) (CF : CallFix p m c cc nL s args Ts own) (hM : XM X l y cw rm D cl tys wc (As) mc ms x_eI post w1) (hcw : CallB R s args own index y bytes maxL ret cw rm mc ms n ∧ (Cond.static y).before args s = true) (hK : va_K D cl tys s) (hP : va_P D cl (ws ++ pl) H) (hD : va_D A (ws ++ pl)) (hS : va_S A s.heap H locs) (hA : ∀ q : Nat, s.heap.size ≤ q → A q) (hX : X A s)
    (isC isR : List Nat) (hC : isC.map (fun i => ws[i]?) = wc.map some) (hR : isR.map (fun i => ws[i]?) = wr.map some) (hn1 : va_nd isC = true) (hn2 : va_nd isR = true) (hdis : ∀ i ∈ isR, i ∉ isC) (hn : As.length = n) (hst : st0 = As.reverse ++ rest) (hsize : ls.size = nL) (hW : (rest.map fun v => v.category).sum ≤ 8) (hdg : decode cc pc = .ok (.invokestatic index, 3)) (hf : cells + mc ≤ R.cells ∧ slots + ms ≤ R.slots)
    (kk : ∀ (r : Int32) (u : S) (H1 : Heap) (locs1 : List Loc), post r u → va_P D cl ((wr ++ w1 u) ++ pl) H1 → va_D A ((wr ++ w1 u) ++ pl) → va_S A s.heap H1 locs1 → W p l e R s m args below meth c H1 locs1 (cells + mc) (slots + ms) Q (F0 m (pc + 3) ls (.int r :: rest))) :
    W p l e R s m args below meth c H locs cells slots Q (F0 m pc ls st0) := by
  refine XM.backQ (rest := rest) hXk hM hK hP hD hS hA hX isC isR hC hR hn1 hn2 hdis (fun Pc Qc hMet hbl hPc => ?_) (fun r u H1 locs1 h1 h2 h3 h4 => ?_)
  · exact va_runS (As := As) (rest := rest) CF hMet hcw ⟨hbl, hPc⟩ rfl hn hsize hst (lv_room hW) hdg hf
  · exact kk r u H1 locs1 h1 h2 h3 h4
theorem XM.callSQl {post : Int64 → S → Prop} (hXk : x_ok X) (CF : CallFix p m c cc nL s args Ts own) (hM : XM X l y cw rm D cl tys wc (As) mc ms x_eL post w1) (hcw : CallB R s args own index y bytes maxL ret cw rm mc ms n ∧ (Cond.static y).before args s = true) (hK : va_K D cl tys s) (hP : va_P D cl (ws ++ pl) H) (hD : va_D A (ws ++ pl)) (hS : va_S A s.heap H locs) (hA : ∀ q : Nat, s.heap.size ≤ q → A q) (hX : X A s)
    (isC isR : List Nat) (hC : isC.map (fun i => ws[i]?) = wc.map some) (hR : isR.map (fun i => ws[i]?) = wr.map some) (hn1 : va_nd isC = true) (hn2 : va_nd isR = true) (hdis : ∀ i ∈ isR, i ∉ isC) (hn : As.length = n) (hst : st0 = As.reverse ++ rest) (hsize : ls.size = nL) (hW : (rest.map fun v => v.category).sum ≤ 8) (hdg : decode cc pc = .ok (.invokestatic index, 3)) (hf : cells + mc ≤ R.cells ∧ slots + ms ≤ R.slots)
    (kk : ∀ (r : Int64) (u : S) (H1 : Heap) (locs1 : List Loc), post r u → va_P D cl ((wr ++ w1 u) ++ pl) H1 → va_D A ((wr ++ w1 u) ++ pl) → va_S A s.heap H1 locs1 → W p l e R s m args below meth c H1 locs1 (cells + mc) (slots + ms) Q (F0 m (pc + 3) ls (.long r :: rest))) :
    W p l e R s m args below meth c H locs cells slots Q (F0 m pc ls st0) := by
  refine XM.backQ (rest := rest) hXk hM hK hP hD hS hA hX isC isR hC hR hn1 hn2 hdis (fun Pc Qc hMet hbl hPc => ?_) (fun r u H1 locs1 h1 h2 h3 h4 => ?_)
  · exact va_runS (As := As) (rest := rest) CF hMet hcw ⟨hbl, hPc⟩ rfl hn hsize hst (lv_room hW) hdg hf
  · exact kk r u H1 locs1 h1 h2 h3 h4
theorem XM.callSQv {post : Unit → S → Prop} (hXk : x_ok X) (CF : CallFix p m c cc nL s args Ts own) (hM : XM X l y cw rm D cl tys wc (As) mc ms x_eV post w1) (hcw : CallB R s args own index y bytes maxL ret cw rm mc ms n ∧ (Cond.static y).before args s = true) (hK : va_K D cl tys s) (hP : va_P D cl (ws ++ pl) H) (hD : va_D A (ws ++ pl)) (hS : va_S A s.heap H locs) (hA : ∀ q : Nat, s.heap.size ≤ q → A q) (hX : X A s)
    (isC isR : List Nat) (hC : isC.map (fun i => ws[i]?) = wc.map some) (hR : isR.map (fun i => ws[i]?) = wr.map some) (hn1 : va_nd isC = true) (hn2 : va_nd isR = true) (hdis : ∀ i ∈ isR, i ∉ isC) (hn : As.length = n) (hst : st0 = As.reverse ++ rest) (hsize : ls.size = nL) (hW : (rest.map fun v => v.category).sum ≤ 8) (hdg : decode cc pc = .ok (.invokestatic index, 3)) (hf : cells + mc ≤ R.cells ∧ slots + ms ≤ R.slots)
    (kk : ∀ (u : S) (H1 : Heap) (locs1 : List Loc), post () u → va_P D cl ((wr ++ w1 u) ++ pl) H1 → va_D A ((wr ++ w1 u) ++ pl) → va_S A s.heap H1 locs1 → W p l e R s m args below meth c H1 locs1 (cells + mc) (slots + ms) Q (F0 m (pc + 3) ls (rest))) :
    W p l e R s m args below meth c H locs cells slots Q (F0 m pc ls st0) := by
  refine XM.backQ (rest := rest) hXk hM hK hP hD hS hA hX isC isR hC hR hn1 hn2 hdis (fun Pc Qc hMet hbl hPc => ?_) (fun r u H1 locs1 h1 h2 h3 h4 => ?_)
  · exact va_runS (As := As) (rest := rest) CF hMet hcw ⟨hbl, hPc⟩ rfl hn hsize hst (lv_room hW) hdg hf
  · exact kk u H1 locs1 h1 h2 h3 h4
theorem XM.callSNQi {post : Int32 → S → Prop} (hXk : x_ok X) (CF : CallFix p m c cc nL s args Ts own) (hM : XM X l y cw rm D cl tys wc (As) mc ms x_eI post w1) (hcw : va_CN R s args own index y host bytes maxL ret cw rm mc ms n ∧ (Cond.static y).before args s = true ∧ True) (hK : va_K D cl tys s) (hP : va_P D cl (ws ++ pl) H) (hD : va_D A (ws ++ pl)) (hS : va_S A s.heap H locs) (hA : ∀ q : Nat, s.heap.size ≤ q → A q) (hX : X A s)
    (isC isR : List Nat) (hC : isC.map (fun i => ws[i]?) = wc.map some) (hR : isR.map (fun i => ws[i]?) = wr.map some) (hn1 : va_nd isC = true) (hn2 : va_nd isR = true) (hdis : ∀ i ∈ isR, i ∉ isC) (hn : As.length = n) (hst : st0 = As.reverse ++ rest) (hsize : ls.size = nL) (hW : (rest.map fun v => v.category).sum ≤ 8) (hdg : decode cc pc = .ok (.invokestatic index, 3)) (hf : cells + mc ≤ R.cells ∧ slots + ms ≤ R.slots)
    (kk : ∀ (r : Int32) (u : S) (H1 : Heap) (locs1 : List Loc), post r u → va_P D cl ((wr ++ w1 u) ++ pl) H1 → va_D A ((wr ++ w1 u) ++ pl) → va_S A s.heap H1 locs1 → W p l e R s m args below meth c H1 locs1 (cells + mc) (slots + ms) Q (F0 m (pc + 3) ls (.int r :: rest))) :
    W p l e R s m args below meth c H locs cells slots Q (F0 m pc ls st0) := by
  refine XM.backQ (rest := rest) hXk hM hK hP hD hS hA hX isC isR hC hR hn1 hn2 hdis (fun Pc Qc hMet hbl hPc => ?_) (fun r u H1 locs1 h1 h2 h3 h4 => ?_)
  · exact va_runSN (As := As) (rest := rest) CF hMet hcw ⟨hbl, hPc⟩ rfl hn hsize hst (lv_room hW) hdg hf
  · exact kk r u H1 locs1 h1 h2 h3 h4
theorem XM.callSNQl {post : Int64 → S → Prop} (hXk : x_ok X) (CF : CallFix p m c cc nL s args Ts own) (hM : XM X l y cw rm D cl tys wc (As) mc ms x_eL post w1) (hcw : va_CN R s args own index y host bytes maxL ret cw rm mc ms n ∧ (Cond.static y).before args s = true ∧ True) (hK : va_K D cl tys s) (hP : va_P D cl (ws ++ pl) H) (hD : va_D A (ws ++ pl)) (hS : va_S A s.heap H locs) (hA : ∀ q : Nat, s.heap.size ≤ q → A q) (hX : X A s)
    (isC isR : List Nat) (hC : isC.map (fun i => ws[i]?) = wc.map some) (hR : isR.map (fun i => ws[i]?) = wr.map some) (hn1 : va_nd isC = true) (hn2 : va_nd isR = true) (hdis : ∀ i ∈ isR, i ∉ isC) (hn : As.length = n) (hst : st0 = As.reverse ++ rest) (hsize : ls.size = nL) (hW : (rest.map fun v => v.category).sum ≤ 8) (hdg : decode cc pc = .ok (.invokestatic index, 3)) (hf : cells + mc ≤ R.cells ∧ slots + ms ≤ R.slots)
    (kk : ∀ (r : Int64) (u : S) (H1 : Heap) (locs1 : List Loc), post r u → va_P D cl ((wr ++ w1 u) ++ pl) H1 → va_D A ((wr ++ w1 u) ++ pl) → va_S A s.heap H1 locs1 → W p l e R s m args below meth c H1 locs1 (cells + mc) (slots + ms) Q (F0 m (pc + 3) ls (.long r :: rest))) :
    W p l e R s m args below meth c H locs cells slots Q (F0 m pc ls st0) := by
  refine XM.backQ (rest := rest) hXk hM hK hP hD hS hA hX isC isR hC hR hn1 hn2 hdis (fun Pc Qc hMet hbl hPc => ?_) (fun r u H1 locs1 h1 h2 h3 h4 => ?_)
  · exact va_runSN (As := As) (rest := rest) CF hMet hcw ⟨hbl, hPc⟩ rfl hn hsize hst (lv_room hW) hdg hf
  · exact kk r u H1 locs1 h1 h2 h3 h4
theorem XM.callSNQv {post : Unit → S → Prop} (hXk : x_ok X) (CF : CallFix p m c cc nL s args Ts own) (hM : XM X l y cw rm D cl tys wc (As) mc ms x_eV post w1) (hcw : va_CN R s args own index y host bytes maxL ret cw rm mc ms n ∧ (Cond.static y).before args s = true ∧ True) (hK : va_K D cl tys s) (hP : va_P D cl (ws ++ pl) H) (hD : va_D A (ws ++ pl)) (hS : va_S A s.heap H locs) (hA : ∀ q : Nat, s.heap.size ≤ q → A q) (hX : X A s)
    (isC isR : List Nat) (hC : isC.map (fun i => ws[i]?) = wc.map some) (hR : isR.map (fun i => ws[i]?) = wr.map some) (hn1 : va_nd isC = true) (hn2 : va_nd isR = true) (hdis : ∀ i ∈ isR, i ∉ isC) (hn : As.length = n) (hst : st0 = As.reverse ++ rest) (hsize : ls.size = nL) (hW : (rest.map fun v => v.category).sum ≤ 8) (hdg : decode cc pc = .ok (.invokestatic index, 3)) (hf : cells + mc ≤ R.cells ∧ slots + ms ≤ R.slots)
    (kk : ∀ (u : S) (H1 : Heap) (locs1 : List Loc), post () u → va_P D cl ((wr ++ w1 u) ++ pl) H1 → va_D A ((wr ++ w1 u) ++ pl) → va_S A s.heap H1 locs1 → W p l e R s m args below meth c H1 locs1 (cells + mc) (slots + ms) Q (F0 m (pc + 3) ls (rest))) :
    W p l e R s m args below meth c H locs cells slots Q (F0 m pc ls st0) := by
  refine XM.backQ (rest := rest) hXk hM hK hP hD hS hA hX isC isR hC hR hn1 hn2 hdis (fun Pc Qc hMet hbl hPc => ?_) (fun r u H1 locs1 h1 h2 h3 h4 => ?_)
  · exact va_runSN (As := As) (rest := rest) CF hMet hcw ⟨hbl, hPc⟩ rfl hn hsize hst (lv_room hW) hdg hf
  · exact kk u H1 locs1 h1 h2 h3 h4
theorem XM.callVPi {post : Int32 → S → Prop} (hXk : x_ok X) (CF : CallFix p m c cc nL s args Ts own) (hM : XM X l y cw rm D cl tys (wc ++ pl) (.ref b :: As) mc ms x_eI post (fun u => rx u ++ px u)) (hcw : CallW R s args own Cn index y bytes maxL ret cw rm mc ms n) (hK : va_K D cl tys s) (hP : va_P D cl (ws ++ pl) H) (hD : va_D A (ws ++ pl)) (hS : va_S A s.heap H locs) (hA : ∀ q : Nat, s.heap.size ≤ q → A q) (hX : X A s)
    (isC isR : List Nat) (hC : isC.map (fun i => ws[i]?) = wc.map some) (hR : isR.map (fun i => ws[i]?) = wr.map some) (hn1 : va_nd isC = true) (hn2 : va_nd isR = true) (hdis : ∀ i ∈ isR, i ∉ isC) (he : wc[0]? = some (b, .inr (ci, fs))) (hc : cl[ci]? = some (Cn, T, N)) (hn : As.length = n) (hst : st0 = As.reverse ++ .ref b :: rest) (hsize : ls.size = nL) (hW : (rest.map fun v => v.category).sum ≤ 8) (hdg : decode cc pc = .ok (.invokevirtual index, 3)) (hf : cells + mc ≤ R.cells ∧ slots + ms ≤ R.slots)
    (kk : ∀ (r : Int32) (u : S) (H1 : Heap) (locs1 : List Loc), post r u → va_P D cl ((wr ++ rx u) ++ px u) H1 → va_D A ((wr ++ rx u) ++ px u) → va_S A s.heap H1 locs1 → W p l e R s m args below meth c H1 locs1 (cells + mc) (slots + ms) Q (F0 m (pc + 3) ls (.int r :: rest))) :
    W p l e R s m args below meth c H locs cells slots Q (F0 m pc ls st0) := by
  refine XM.backP (rest := rest) hXk hM hK hP hD hS hA hX isC isR hC hR hn1 hn2 hdis (fun Pc Qc hMet hbl hPc => ?_) (fun r u H1 locs1 h1 h2 h3 h4 => ?_)
  · exact va_runV (As := As) (rest := rest) CF hMet hcw ⟨hbl, va_recv hK (x_cut (x_fstP hP) isC hC) hc he, hPc⟩ rfl hn hsize hst (lv_room hW) hdg hf
  · exact kk r u H1 locs1 h1 h2 h3 h4
theorem XM.callVPv {post : Unit → S → Prop} (hXk : x_ok X) (CF : CallFix p m c cc nL s args Ts own) (hM : XM X l y cw rm D cl tys (wc ++ pl) (.ref b :: As) mc ms x_eV post (fun u => rx u ++ px u)) (hcw : CallW R s args own Cn index y bytes maxL ret cw rm mc ms n) (hK : va_K D cl tys s) (hP : va_P D cl (ws ++ pl) H) (hD : va_D A (ws ++ pl)) (hS : va_S A s.heap H locs) (hA : ∀ q : Nat, s.heap.size ≤ q → A q) (hX : X A s)
    (isC isR : List Nat) (hC : isC.map (fun i => ws[i]?) = wc.map some) (hR : isR.map (fun i => ws[i]?) = wr.map some) (hn1 : va_nd isC = true) (hn2 : va_nd isR = true) (hdis : ∀ i ∈ isR, i ∉ isC) (he : wc[0]? = some (b, .inr (ci, fs))) (hc : cl[ci]? = some (Cn, T, N)) (hn : As.length = n) (hst : st0 = As.reverse ++ .ref b :: rest) (hsize : ls.size = nL) (hW : (rest.map fun v => v.category).sum ≤ 8) (hdg : decode cc pc = .ok (.invokevirtual index, 3)) (hf : cells + mc ≤ R.cells ∧ slots + ms ≤ R.slots)
    (kk : ∀ (u : S) (H1 : Heap) (locs1 : List Loc), post () u → va_P D cl ((wr ++ rx u) ++ px u) H1 → va_D A ((wr ++ rx u) ++ px u) → va_S A s.heap H1 locs1 → W p l e R s m args below meth c H1 locs1 (cells + mc) (slots + ms) Q (F0 m (pc + 3) ls (rest))) :
    W p l e R s m args below meth c H locs cells slots Q (F0 m pc ls st0) := by
  refine XM.backP (rest := rest) hXk hM hK hP hD hS hA hX isC isR hC hR hn1 hn2 hdis (fun Pc Qc hMet hbl hPc => ?_) (fun r u H1 locs1 h1 h2 h3 h4 => ?_)
  · exact va_runV (As := As) (rest := rest) CF hMet hcw ⟨hbl, va_recv hK (x_cut (x_fstP hP) isC hC) hc he, hPc⟩ rfl hn hsize hst (lv_room hW) hdg hf
  · exact kk u H1 locs1 h1 h2 h3 h4
theorem XM.callVNPi {post : Int32 → S → Prop} (hXk : x_ok X) (CF : CallFix p m c cc nL s args Ts own) (hM : XM X l y cw rm D cl tys (wc ++ pl) (.ref b :: As) mc ms x_eI post (fun u => rx u ++ px u)) (hcw : va_CN R s args own index y host bytes maxL ret cw rm mc ms n ∧ (Cond.instanceMethod y).before args s = true ∧ (Cond.selects Cn y y).before args s = true) (hK : va_K D cl tys s) (hP : va_P D cl (ws ++ pl) H) (hD : va_D A (ws ++ pl)) (hS : va_S A s.heap H locs) (hA : ∀ q : Nat, s.heap.size ≤ q → A q) (hX : X A s)
    (isC isR : List Nat) (hC : isC.map (fun i => ws[i]?) = wc.map some) (hR : isR.map (fun i => ws[i]?) = wr.map some) (hn1 : va_nd isC = true) (hn2 : va_nd isR = true) (hdis : ∀ i ∈ isR, i ∉ isC) (he : wc[0]? = some (b, .inr (ci, fs))) (hc : cl[ci]? = some (Cn, T, N)) (hn : As.length = n) (hst : st0 = As.reverse ++ .ref b :: rest) (hsize : ls.size = nL) (hW : (rest.map fun v => v.category).sum ≤ 8) (hdg : decode cc pc = .ok (.invokevirtual index, 3)) (hf : cells + mc ≤ R.cells ∧ slots + ms ≤ R.slots)
    (kk : ∀ (r : Int32) (u : S) (H1 : Heap) (locs1 : List Loc), post r u → va_P D cl ((wr ++ rx u) ++ px u) H1 → va_D A ((wr ++ rx u) ++ px u) → va_S A s.heap H1 locs1 → W p l e R s m args below meth c H1 locs1 (cells + mc) (slots + ms) Q (F0 m (pc + 3) ls (.int r :: rest))) :
    W p l e R s m args below meth c H locs cells slots Q (F0 m pc ls st0) := by
  refine XM.backP (rest := rest) hXk hM hK hP hD hS hA hX isC isR hC hR hn1 hn2 hdis (fun Pc Qc hMet hbl hPc => ?_) (fun r u H1 locs1 h1 h2 h3 h4 => ?_)
  · exact va_runVN (As := As) (rest := rest) CF hMet hcw ⟨hbl, va_recv hK (x_cut (x_fstP hP) isC hC) hc he, hPc⟩ rfl hn hsize hst (lv_room hW) hdg hf
  · exact kk r u H1 locs1 h1 h2 h3 h4
theorem XM.callVNPv {post : Unit → S → Prop} (hXk : x_ok X) (CF : CallFix p m c cc nL s args Ts own) (hM : XM X l y cw rm D cl tys (wc ++ pl) (.ref b :: As) mc ms x_eV post (fun u => rx u ++ px u)) (hcw : va_CN R s args own index y host bytes maxL ret cw rm mc ms n ∧ (Cond.instanceMethod y).before args s = true ∧ (Cond.selects Cn y y).before args s = true) (hK : va_K D cl tys s) (hP : va_P D cl (ws ++ pl) H) (hD : va_D A (ws ++ pl)) (hS : va_S A s.heap H locs) (hA : ∀ q : Nat, s.heap.size ≤ q → A q) (hX : X A s)
    (isC isR : List Nat) (hC : isC.map (fun i => ws[i]?) = wc.map some) (hR : isR.map (fun i => ws[i]?) = wr.map some) (hn1 : va_nd isC = true) (hn2 : va_nd isR = true) (hdis : ∀ i ∈ isR, i ∉ isC) (he : wc[0]? = some (b, .inr (ci, fs))) (hc : cl[ci]? = some (Cn, T, N)) (hn : As.length = n) (hst : st0 = As.reverse ++ .ref b :: rest) (hsize : ls.size = nL) (hW : (rest.map fun v => v.category).sum ≤ 8) (hdg : decode cc pc = .ok (.invokevirtual index, 3)) (hf : cells + mc ≤ R.cells ∧ slots + ms ≤ R.slots)
    (kk : ∀ (u : S) (H1 : Heap) (locs1 : List Loc), post () u → va_P D cl ((wr ++ rx u) ++ px u) H1 → va_D A ((wr ++ rx u) ++ px u) → va_S A s.heap H1 locs1 → W p l e R s m args below meth c H1 locs1 (cells + mc) (slots + ms) Q (F0 m (pc + 3) ls (rest))) :
    W p l e R s m args below meth c H locs cells slots Q (F0 m pc ls st0) := by
  refine XM.backP (rest := rest) hXk hM hK hP hD hS hA hX isC isR hC hR hn1 hn2 hdis (fun Pc Qc hMet hbl hPc => ?_) (fun r u H1 locs1 h1 h2 h3 h4 => ?_)
  · exact va_runVN (As := As) (rest := rest) CF hMet hcw ⟨hbl, va_recv hK (x_cut (x_fstP hP) isC hC) hc he, hPc⟩ rfl hn hsize hst (lv_room hW) hdg hf
  · exact kk u H1 locs1 h1 h2 h3 h4
end XTailCalls
