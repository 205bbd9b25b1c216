/-! MY OWN LAYER over the kit: a contract with a picture before and a picture behind (XM), its entry, its end, its calls. -/
/-- what an answer is on the stack -/
def x_eI (r : Int32) : Option Value := some (.int r)
def x_eL (r : Int64) : Option Value := some (.long r)
def x_eV (_ : Unit) : Option Value := none
/-- the array classes: ints, longs, booleans -/
abbrev x_T (kI kJ kZ : ClassId) : List (ClassId × FieldType) := [(kI, .int), (kJ, .long), (kZ, .boolean)]
/-- a fact of the surroundings (statics), which stays as long as nothing outside the own cells changes -/
def x_ok (X : (Nat → Prop) → State → Prop) : Prop := ∀ (A B : Nat → Prop) (U V : State), X A U → (∀ q, B q → A q) → (∀ q : Nat, q < U.heap.size → ¬ A q → V.heap[q]? = U.heap[q]?) → U.WarmedH V.vm → X B V
/-- THE CONTRACT: arguments av, the picture ws; behind it an answer r and numbers u with 'post r u', the picture w1 u -/
def XM (X : (Nat → Prop) → State → Prop) {ρ S : Type} (l : Launch) (y : MethodName) (cw : List Cond) (rm : Room) (D : va_G) (cl : List vw_C) (tys : List (ClassId × FieldType)) (ws : va_W) (av : List Value) (mc ms : Nat) (enc : ρ → Option Value) (post : ρ → S → Prop) (w1 : S → va_W) : Prop :=
  ∀ sz : Nat, Met l y cw rm (va_Pc av (fun U => U.heap.size = sz ∧ va_P D cl ws U.heap ∧ va_K D cl tys U ∧ va_D (fun _ => True) ws ∧ X (va_A ws sz) U))
    (fun _ st oc t => (∃ (r : ρ) (u : S), oc = .returned (enc r) ∧ post r u ∧ va_P D cl (w1 u) t.heap ∧ va_K D cl tys t ∧ va_D (va_A ws sz) (w1 u)) ∧ va_F (va_A ws sz) st t) mc ms (va_A ws sz)
section XEntry
variable {X : (Nat → Prop) → State → Prop} {S : Type} {l : Launch} {y : MethodName} {cw cw' : List Cond} {rm : Room} {D : va_G} {cl : List vw_C} {tys : List (ClassId × FieldType)} {ws : va_W} {av : List Value} {mc ms maxL : Nat} {cc : ByteArray} {w1 : S → va_W}
theorem XM.ofI {post : Int32 → S → Prop} (hy : plainName y.cls = true) (hw : cw = Cond.code y cc maxL (some .int) :: cw') (hlen : (lg_sl av).length ≤ maxL)
    (body : ∀ (p : Program) (e : Env) (s : State) (m : MethodId) (below : List Frame) (meth : Method) (c : Code) (A : Nat → Prop) (Q : State → Prop), p.tables.exec = Jvm.exec → c.code = cc → meth.sig.returnType = some .int → c.maxLocals = maxL → s.vm.findClass y.cls = some m.cls → (∀ w ∈ cw, w.before av.toArray s = true) → meth.locks = false → meth.name = y.name → (∀ q : Nat, s.heap.size ≤ q → A q) → va_K D cl tys s → va_P D cl ws s.heap → va_D A ws → X A s → va_S A s.heap s.heap [] → ∀ ls, lv_has ls maxL (lv_args 0 av) →
      (∀ (r : Int32) (u : S) (H : Heap) (locs : List Loc) (ls : Array Slot) {pc : Nat}, post r u → va_P D cl (w1 u) H → va_D A (w1 u) → va_S A s.heap H locs → decode cc pc = .ok (.ireturn, 1) → W p l e rm s m av.toArray below meth c H locs mc ms Q (F0 m pc ls [.int r])) →
      W p l e rm s m av.toArray below meth c s.heap [] 0 0 Q (F0 m 0 ls [])) : XM X l y cw rm D cl tys ws av mc ms x_eI post w1 := by
  intro sz
  refine Met.ofW (cc := cc) (maxL := maxL) (ret := some .int) hy hw ?_
  intro p e s m args below meth c s₁ B hml hv
  obtain ⟨rfl, hsz, hP, hK, hD0, hX⟩ := hv
  subst hsz
  have hlocks := B.notSynchronized
  rw [lg_entry_eq]
  exact body p e s m below meth c (va_A ws s.heap.size) _ B.exec B.bytes B.returns hml (findClass_of_methodNamed B.named) (atoms_spec (ws := cw) B.pre) hlocks (name_of_methodNamed B.named B.method).1 (fun q h => Or.inr h) hK hP hD0.self hX va_S.rf _ (lv_entry av hlen)
    (fun r u H locs ls pc hp h1 h2 h3 hd => W.iret (v := r) B.exec B.bytes B.returns (fun t ht hW => ⟨⟨r, u, rfl, hp, by rw [ht]; exact h1, va_K.moved hW.alike hK, h2⟩, h3.F ht⟩) h3.2.2 hd)
theorem XM.ofZ {post : Int32 → S → Prop} (hy : plainName y.cls = true) (hw : cw = Cond.code y cc maxL (some .boolean) :: cw') (hlen : (lg_sl av).length ≤ maxL)
    (body : ∀ (p : Program) (e : Env) (s : State) (m : MethodId) (below : List Frame) (meth : Method) (c : Code) (A : Nat → Prop) (Q : State → Prop), p.tables.exec = Jvm.exec → c.code = cc → meth.sig.returnType = some .boolean → c.maxLocals = maxL → s.vm.findClass y.cls = some m.cls → (∀ w ∈ cw, w.before av.toArray s = true) → meth.locks = false → meth.name = y.name → (∀ q : Nat, s.heap.size ≤ q → A q) → va_K D cl tys s → va_P D cl ws s.heap → va_D A ws → X A s → va_S A s.heap s.heap [] → ∀ ls, lv_has ls maxL (lv_args 0 av) →
      (∀ (r : Int32) (u : S), narrow .boolean (.int r) = .int r → ∀ (H : Heap) (locs : List Loc) (ls : Array Slot) {pc : Nat}, post r u → va_P D cl (w1 u) H → va_D A (w1 u) → va_S A s.heap H locs → decode cc pc = .ok (.ireturn, 1) → W p l e rm s m av.toArray below meth c H locs mc ms Q (F0 m pc ls [.int r])) →
      W p l e rm s m av.toArray below meth c s.heap [] 0 0 Q (F0 m 0 ls [])) : XM X l y cw rm D cl tys ws av mc ms x_eI post w1 := by
  intro sz
  refine Met.ofW (cc := cc) (maxL := maxL) (ret := some .boolean) hy hw ?_
  intro p e s m args below meth c s₁ B hml hv
  obtain ⟨rfl, hsz, hP, hK, hD0, hX⟩ := hv
  subst hsz
  have hlocks := B.notSynchronized
  rw [lg_entry_eq]
  exact body p e s m below meth c (va_A ws s.heap.size) _ B.exec B.bytes B.returns hml (findClass_of_methodNamed B.named) (atoms_spec (ws := cw) B.pre) hlocks (name_of_methodNamed B.named B.method).1 (fun q h => Or.inr h) hK hP hD0.self hX va_S.rf _ (lv_entry av hlen)
    (fun r u hn H locs ls pc hp h1 h2 h3 hd => W.zret (v := r) B.exec B.bytes B.returns hn (fun t ht hW => ⟨⟨r, u, rfl, hp, by rw [ht]; exact h1, va_K.moved hW.alike hK, h2⟩, h3.F ht⟩) h3.2.2 hd)
theorem XM.ofL {post : Int64 → S → Prop} (hy : plainName y.cls = true) (hw : cw = Cond.code y cc maxL (some .long) :: cw') (hlen : (lg_sl av).length ≤ maxL)
    (body : ∀ (p : Program) (e : Env) (s : State) (m : MethodId) (below : List Frame) (meth : Method) (c : Code) (A : Nat → Prop) (Q : State → Prop), p.tables.exec = Jvm.exec → c.code = cc → meth.sig.returnType = some .long → c.maxLocals = maxL → s.vm.findClass y.cls = some m.cls → (∀ w ∈ cw, w.before av.toArray s = true) → meth.locks = false → meth.name = y.name → (∀ q : Nat, s.heap.size ≤ q → A q) → va_K D cl tys s → va_P D cl ws s.heap → va_D A ws → X A s → va_S A s.heap s.heap [] → ∀ ls, lv_has ls maxL (lv_args 0 av) →
      (∀ (r : Int64) (u : S) (H : Heap) (locs : List Loc) (ls : Array Slot) {pc : Nat}, post r u → va_P D cl (w1 u) H → va_D A (w1 u) → va_S A s.heap H locs → decode cc pc = .ok (.lreturn, 1) → W p l e rm s m av.toArray below meth c H locs mc ms Q (F0 m pc ls [.long r])) →
      W p l e rm s m av.toArray below meth c s.heap [] 0 0 Q (F0 m 0 ls [])) : XM X l y cw rm D cl tys ws av mc ms x_eL post w1 := by
  intro sz
  refine Met.ofW (cc := cc) (maxL := maxL) (ret := some .long) hy hw ?_
  intro p e s m args below meth c s₁ B hml hv
  obtain ⟨rfl, hsz, hP, hK, hD0, hX⟩ := hv
  subst hsz
  have hlocks := B.notSynchronized
  rw [lg_entry_eq]
  exact body p e s m below meth c (va_A ws s.heap.size) _ B.exec B.bytes B.returns hml (findClass_of_methodNamed B.named) (atoms_spec (ws := cw) B.pre) hlocks (name_of_methodNamed B.named B.method).1 (fun q h => Or.inr h) hK hP hD0.self hX va_S.rf _ (lv_entry av hlen)
    (fun r u H locs ls pc hp h1 h2 h3 hd => W.lret (v := r) B.exec B.bytes B.returns (fun t ht hW => ⟨⟨r, u, rfl, hp, by rw [ht]; exact h1, va_K.moved hW.alike hK, h2⟩, h3.F ht⟩) h3.2.2 hd)
theorem XM.ofV {post : Unit → S → Prop} (hy : plainName y.cls = true) (hw : cw = Cond.code y cc maxL none :: cw') (hlen : (lg_sl av).length ≤ maxL)
    (body : ∀ (p : Program) (e : Env) (s : State) (m : MethodId) (below : List Frame) (meth : Method) (c : Code) (A : Nat → Prop) (Q : State → Prop), p.tables.exec = Jvm.exec → c.code = cc → meth.sig.returnType = none → c.maxLocals = maxL → s.vm.findClass y.cls = some m.cls → (∀ w ∈ cw, w.before av.toArray s = true) → meth.locks = false → meth.name = y.name → (∀ q : Nat, s.heap.size ≤ q → A q) → va_K D cl tys s → va_P D cl ws s.heap → va_D A ws → X A s → va_S A s.heap s.heap [] → ∀ ls, lv_has ls maxL (lv_args 0 av) →
      (∀ (u : S) (H : Heap) (locs : List Loc) (ls : Array Slot) {pc : Nat}, post () u → va_P D cl (w1 u) H → va_D A (w1 u) → va_S A s.heap H locs → decode cc pc = .ok (.return_, 1) → W p l e rm s m av.toArray below meth c H locs mc ms Q (F0 m pc ls [])) →
      W p l e rm s m av.toArray below meth c s.heap [] 0 0 Q (F0 m 0 ls [])) : XM X l y cw rm D cl tys ws av mc ms x_eV post w1 := by
  intro sz
  refine Met.ofW (cc := cc) (maxL := maxL) (ret := none) hy hw ?_
  intro p e s m args below meth c s₁ B hml hv
  obtain ⟨rfl, hsz, hP, hK, hD0, hX⟩ := hv
  subst hsz
  have hlocks := B.notSynchronized
  rw [lg_entry_eq]
  exact body p e s m below meth c (va_A ws s.heap.size) _ B.exec B.bytes B.returns hml (findClass_of_methodNamed B.named) (atoms_spec (ws := cw) B.pre) hlocks (name_of_methodNamed B.named B.method).1 (fun q h => Or.inr h) hK hP hD0.self hX va_S.rf _ (lv_entry av hlen)
    (fun u H locs ls pc hp h1 h2 h3 hd => W.vret B.exec B.bytes B.returns (fun t ht hW => ⟨⟨(), u, rfl, hp, by rw [ht]; exact h1, va_K.moved hW.alike hK, h2⟩, h3.F ht⟩) h3.2.2 hd)
end XEntry
theorem x_cut {D : va_G} {cl : List vw_C} {ws wc : va_W} {H : Heap} (hP : va_P D cl ws H) (isC : List Nat) (hC : isC.map (fun i => ws[i]?) = wc.map some) : va_P D cl wc H := by
  intro k q hk
  have h1 : (isC.map (fun i => ws[i]?))[k]? = some (some q) := by rw [hC, List.getElem?_map, hk]; rfl
  rw [List.getElem?_map] at h1
  cases hi : isC[k]? with
  | none => rw [hi] at h1; cases h1
  | some i => rw [hi] at h1; exact hP i q (Option.some.inj h1)
section XCall
variable {X : (Nat → Prop) → State → Prop} {ρ S : Type} {p : Program} {l : Launch} {e : Env} {R : Room} {s : State} {m : MethodId} {args : Array Value} {below : List Frame} {meth : Method} {c : Code} {H : Heap} {locs : List Loc} {cells slots : Nat} {Q : State → Prop}
  {y : MethodName} {cw : List Cond} {rm : Room} {D : va_G} {cl : List vw_C} {tys : List (ClassId × FieldType)} {ws wc wr : va_W} {mc ms n maxL nL index pc : Nat} {cc bytes : ByteArray} {ret : Option FieldType} {enc : ρ → Option Value} {post : ρ → S → Prop} {w1 : S → va_W} {Ts : List Cond} {own Cn host : String} {A : Nat → Prop} {b ci : Nat} {As rest st0 : List Value} {fs : List Value} {ls : Array Slot} {av : List Value} {T : u_T} {N : Nat}
/-- behind a run of the callee: the rest of the picture beside the callee's new one -/
theorem XM.back (hXk : x_ok X) (hM : XM X l y cw rm D cl tys wc av mc ms enc post w1) (hK : va_K D cl tys s) (hP : va_P D cl ws H) (hD : va_D A ws) (hS : va_S A s.heap H locs) (hA : ∀ q : Nat, s.heap.size ≤ q → A q) (hX : X A s)
    (isC isR : List Nat) (hC : isC.map (fun i => ws[i]?) = wc.map some) (hR : isR.map (fun i => ws[i]?) = wr.map some) (hn1 : va_nd isC = true) (hn2 : va_nd isR = true) (hdis : ∀ i ∈ isR, i ∉ isC)
    (run : ∀ (Pc : Array Value → State → Prop) (Qc : Array Value → State → Outcome → State → Prop), Met l y cw rm Pc Qc mc ms (va_A wc H.size) → FrameBlind Pc → (∀ U : State, U.heap = H → s.WarmedH U.vm → Pc av.toArray U) → va_Run p l e R s m args below meth c H locs cells slots mc ms (F0 m pc ls st0) rest (Qc av.toArray) (va_A wc H.size))
    (kk : ∀ (r : ρ) (u : S) (H1 : Heap) (locs1 : List Loc), post r u → va_P D cl (wr ++ w1 u) H1 → va_D A (wr ++ w1 u) → va_S A s.heap H1 locs1 → W p l e R s m args below meth c H1 locs1 (cells + mc) (slots + ms) Q (F0 m (pc + 3) ls ((enc r).toList ++ rest))) :
    W p l e R s m args below meth c H locs cells slots Q (F0 m pc ls st0) := by
  have hPc := x_cut hP isC hC
  have hDc : va_D A wc := hD.sub isC hn1 hC
  have hF : ∀ q, va_A wc H.size q → A q := va_free hD hS hA isC hC
  have rn := run _ _ (hM H.size) (fun a U g mk q => by
      obtain ⟨q0, q1, qP, qK, qD, qX⟩ := q
      exact ⟨q0, q1, qP, va_K.moved (u := U) (U := U.calling g mk a) (Vm.Alike.refl U.vm) qK, qD, hXk _ _ U (U.calling g mk a) qX (fun _ h => h) (fun _ _ _ => rfl) (State.WarmedH.refl U)⟩)
    (fun U hU hW => ⟨rfl, by rw [hU], by rw [hU]; exact hPc, va_K.moved hW.alike hK, hDc.weaken (fun _ _ _ _ => trivial), hXk _ _ s U hX hF (fun q h1 h2 => by rw [hU]; exact hS.2.1 q h1 h2) hW⟩)
  intro T0 hT X0
  obtain ⟨v, st₀, t, T', L, h0, X', hL, e1, e2, ⟨⟨r, u, hv, hp, hP1, hK1, hD1⟩, hFr⟩, st⟩ := rn T0 hT X0
  cases hv
  obtain ⟨j1, j2⟩ := va_join (H1 := T'.heap) hP hD isC isR hC hR hn2 hdis (fun q h1 h2 => by rw [e1, hFr.2 q (by rw [h0]; exact h1) h2, h0]) hF (by rw [e1]; exact hP1) hD1
  have hS1 : va_S A s.heap T'.heap (locs ++ L) := by
    refine ⟨Nat.le_trans hS.1 (by rw [e1, ← h0]; exact hFr.1), fun q h1 h2 => ?_, fun q hq => ?_⟩
    · rw [e1, hFr.2 q (by rw [h0]; exact Nat.lt_of_lt_of_le h1 hS.1) (fun z => h2 (hF q z)), h0]
      exact hS.2.1 q h1 h2
    · rcases List.mem_append.mp hq with hq | hq
      · exact hS.2.2 q hq
      · exact hF _ (hL q hq)
  obtain ⟨t2, a1, b1⟩ := kk r u T'.heap _ hp j1 j2 hS1 T' rfl X'
  exact ⟨t2, st t2 a1, b1⟩
end XCall
