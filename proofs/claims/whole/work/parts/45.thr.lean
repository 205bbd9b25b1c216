/-! A METHOD THAT THROWS, its picture as it was: my own layer -/
def x_XC (D : va_G) (cl : List vw_C) (ws : va_W) (A : Nat → Prop) (E : String) : String → State → State → Prop := fun E' st t => E' = E ∧ va_P D cl ws t.heap ∧ va_F A st t
def x_NR : Array Value → State → Outcome → State → Prop := fun _ _ _ _ => False
def XT (X : (Nat → Prop) → State → Prop) (l : Launch) (y : MethodName) (cw : List Cond) (rm : Room) (D : va_G) (cl : List vw_C) (tys : List (ClassId × FieldType)) (ws : va_W) (av : List Value) (mc ms : Nat) (E : String) : Prop :=
  ∀ sz : Nat, vx_Met l y cw rm (va_Pc av (fun U => U.heap.size = sz ∧ va_P D cl ws U.heap ∧ va_K D cl tys U ∧ va_D (fun _ => True) ws ∧ X (va_A ws sz) U)) x_NR (x_XC D cl ws (va_A ws sz) E) mc ms (va_A ws sz)
section XThrow
variable {X : (Nat → Prop) → State → Prop} {l : Launch} {y : MethodName} {cw cw' : List Cond} {rm : Room} {D : va_G} {cl : List vw_C} {tys : List (ClassId × FieldType)} {ws : va_W} {av : List Value} {mc ms maxL : Nat} {cc : ByteArray} {ret : Option FieldType} {E : String}
theorem XT.of (hy : plainName y.cls = true) (hw : cw = Cond.code y cc maxL ret :: cw') (hlen : (lg_sl av).length ≤ maxL)
    (body : ∀ (p : Program) (e : Env) (s : State) (m : MethodId) (below : List Frame) (meth : Method) (c : Code) (A : Nat → Prop), p.tables.exec = Jvm.exec → c.code = cc → c.maxLocals = maxL → s.vm.findClass y.cls = some m.cls → (∀ w ∈ cw, w.before av.toArray s = true) → meth.locks = false → (∀ x ∈ c.exceptionTable.toList, False) → (∀ q : Nat, s.heap.size ≤ q → A q) → va_K D cl tys s → va_P D cl ws s.heap → va_D A ws → X A s → va_S A s.heap s.heap [] → ∀ ls, lv_has ls maxL (lv_args 0 av) →
      W p l e rm s m av.toArray below meth c s.heap [] 0 0 (vx_MQ below x_NR (x_XC D cl ws A E) av.toArray s mc ms A) (F0 m 0 ls [])) : XT X l y cw rm D cl tys ws av mc ms E := by
  intro sz
  refine vx_ofW (cc := cc) (maxL := maxL) (ret := ret) hy hw ?_
  intro p e s m args below meth c s₁ B hml hex hv
  obtain ⟨rfl, hsz, hP, hK, hD0, hX⟩ := hv
  subst hsz
  have hlocks := B.notSynchronized
  rw [lg_entry_eq]
  exact body p e s m below meth c (va_A ws s.heap.size) B.exec B.bytes hml (findClass_of_methodNamed B.named) (atoms_spec (ws := cw) B.pre) hlocks hex (fun q h => Or.inr h) hK hP hD0.self hX va_S.rf _ (lv_entry av hlen)
end XThrow
theorem x_allkept {A : Nat → Prop} {D : va_G} {cl : List vw_C} {ws wc : va_W} {H H1 : Heap} (hP : va_P D cl ws H) (hD : va_D A ws) (isC : List Nat) (hC : isC.map (fun i => ws[i]?) = wc.map some) (hk : ∀ q : Nat, q < H.size → ¬ va_A wc H.size q → H1[q]? = H[q]?) (h1 : va_P D cl wc H1) : va_P D cl ws H1 := by
  intro k q hq
  obtain ⟨qa, qe⟩ := q
  by_cases g : ∃ (j : Nat) (e : va_E), wc[j]? = some (qa, e)
  · obtain ⟨j, e, hj⟩ := g
    have h2 : (isC.map (fun i => ws[i]?))[j]? = some (some (qa, e)) := by rw [hC, List.getElem?_map, hj]; rfl
    rw [List.getElem?_map] at h2
    cases hi : isC[j]? with
    | none => rw [hi] at h2; cases h2
    | some i =>
      rw [hi] at h2
      have h3 : ws[i]? = some (qa, e) := Option.some.inj h2
      have h4 := hD.1 i k _ _ h3 hq rfl
      subst h4
      rw [h3] at hq
      cases hq
      exact h1 j _ hj
  · have hlt := (hP k (qa, qe) hq).lt
    refine (hP k (qa, qe) hq).kept (hk qa hlt (fun z => ?_))
    rcases z with z | z
    · exact g z
    · omega
section XThrowCall
variable {X : (Nat → Prop) → State → Prop} {p : Program} {l : Launch} {e : Env} {R : Room} {s : State} {m : MethodId} {args : Array Value} {below : List Frame} {meth : Method} {c : Code} {H : Heap} {locs : List Loc} {cells slots : Nat} {Q : State → Prop}
  {y : MethodName} {cw : List Cond} {rm : Room} {D : va_G} {cl : List vw_C} {tys : List (ClassId × FieldType)} {ws wc w0 : va_W} {mc ms n maxL nL index pc : Nat} {cc bytes : ByteArray} {ret : Option FieldType} {Ts : List Cond} {own Cn : String} {A : Nat → Prop} {b ci : Nat} {As rest st0 : List Value} {fs : List Value} {ls : Array Slot} {T : u_T} {N : Nat} {E : String}
/-- a call that throws: the frame with what was thrown over it, the caller's whole picture as it was -/
theorem XT.callV (hXk : x_ok X) (CF : CallFix p m c cc nL s args Ts own) (hM : XT X l y cw rm D cl tys wc (.ref b :: As) mc ms E) (hcw : CallW R s args own Cn index y bytes maxL ret cw rm mc ms n) (hK : va_K D cl tys s) (hP : va_P D cl ws H) (hD : va_D A ws) (hS : va_S A s.heap H locs) (hA : ∀ q : Nat, s.heap.size ≤ q → A q) (hX : X A s)
    (isC : List Nat) (hC : isC.map (fun i => ws[i]?) = wc.map some) (hn1 : va_nd isC = true) (he : wc[0]? = some (b, .inr (ci, fs))) (hc : cl[ci]? = some (Cn, T, N)) (hn : As.length = n) (hst : st0 = As.reverse ++ .ref b :: rest) (hsize : ls.size = nL) (hW : (rest.map fun v => v.category).sum ≤ 8) (hdg : decode cc pc = .ok (.invokevirtual index, 3)) (hf : cells + mc ≤ R.cells ∧ slots + ms ≤ R.slots)
    (kk : ∀ (q9 : Nat) (ce : Cell) (H1 : Heap) (locs1 : List Loc), va_P D cl ws H1 → va_S A s.heap H1 locs1 → H1[q9]? = some ce → ce.vm = .none → s.vm.findClass E = some ce.cls → vx_W p l e R s m args below meth c H1 locs1 (cells + mc) (slots + ms) Q (F0 m pc ls rest) q9) :
    W p l e R s m args below meth c H locs cells slots Q (F0 m pc ls st0) := by
  have hPc := x_cut hP isC hC
  have hDc : va_D A wc := hD.sub isC hn1 hC
  have hF : ∀ q, va_A wc H.size q → A q := va_free hD hS hA isC hC
  have rn := vx_runV (As := As) (rest := rest) (g := F0 m pc ls st0) (locs := locs) (cells := cells) (slots := slots) (e := e) (below := below) (meth := meth) CF (hM H.size) hcw ⟨(fun a U g mk q => by
      obtain ⟨q0, q1, qP, qK, qD, qX⟩ := q
      exact ⟨q0, q1, qP, va_K.moved (u := U) (U := U.calling g mk a) (Vm.Alike.refl U.vm) qK, qD, hXk _ _ U (U.calling g mk a) qX (fun _ h => h) (fun _ _ _ => rfl) (State.WarmedH.refl U)⟩), va_recv hK hPc hc he,
    (fun U hU hW => ⟨rfl, by rw [hU], by rw [hU]; exact hPc, va_K.moved hW.alike hK, hDc.weaken (fun _ _ _ _ => trivial), hXk _ _ s U hX hF (fun q h1 h2 => by rw [hU]; exact hS.2.1 q h1 h2) hW⟩)⟩ rfl hn hsize hst (lv_room hW) hdg hf
  intro T0 hT X0
  rcases rn T0 hT X0 with ⟨v, st₀, t, T', L, h0, X', hL, e1, e2, hq, st⟩ | ⟨q, st₀, t, T', L, E', ce, h0, X', hL, e1, e2, ⟨hE, hP1, hFr⟩, hce, hcv, hcl, st⟩
  · exact hq.elim
  · subst hE
    have hk : ∀ q : Nat, q < H.size → ¬ va_A wc H.size q → T'.heap[q]? = H[q]? := fun q h1 h2 => by rw [e1, hFr.2 q (by rw [h0]; exact h1) h2, h0]
    have hS1 : va_S A s.heap T'.heap (locs ++ L) := by
      refine ⟨Nat.le_trans hS.1 (by rw [e1, ← h0]; exact hFr.1), fun q h1 h2 => ?_, fun q hq => ?_⟩
      · rw [hk q (Nat.lt_of_lt_of_le h1 hS.1) (fun z => h2 (hF q z))]
        exact hS.2.1 q h1 h2
      · rcases List.mem_append.mp hq with hq | hq
        · exact hS.2.2 q hq
        · exact hF _ (hL q hq)
    obtain ⟨t2, a1, b1⟩ := kk q ce T'.heap _ (x_allkept hP hD isC hC hk (by rw [e1]; exact hP1)) hS1 (by rw [e1]; exact hce) hcv hcl T' rfl X'
    exact ⟨t2, st.trans a1, b1⟩
/-- .. and it goes on to the caller's caller -/
theorem XT.outV {mc9 ms9 : Nat} (hXk : x_ok X) (CF : CallFix p m c cc nL s args Ts own) (hM : XT X l y cw rm D cl tys wc (.ref b :: As) mc ms E) (hcw : CallW R s args own Cn index y bytes maxL ret cw rm mc ms n) (hK : va_K D cl tys s) (hP : va_P D cl ws H) (hD : va_D A ws) (hS : va_S A s.heap H locs) (hA : ∀ q : Nat, s.heap.size ≤ q → A q) (hX : X A s)
    (isC : List Nat) (hC : isC.map (fun i => ws[i]?) = wc.map some) (hn1 : va_nd isC = true) (he : wc[0]? = some (b, .inr (ci, fs))) (hc : cl[ci]? = some (Cn, T, N)) (hn : As.length = n) (hst : st0 = As.reverse ++ .ref b :: rest) (hsize : ls.size = nL) (hW : (rest.map fun v => v.category).sum ≤ 8) (hdg : decode cc pc = .ok (.invokevirtual index, 3)) (hf : cells + mc ≤ R.cells ∧ slots + ms ≤ R.slots)
    (hex : ∀ x ∈ c.exceptionTable.toList, False) (hlocks : meth.locks = false) (is0 : List Nat) (h0 : is0.map (fun i => ws[i]?) = w0.map some) (hm1 : cells + mc ≤ mc9) (hm2 : slots + ms ≤ ms9) :
    W p l e R s m args below meth c H locs cells slots (vx_MQ below x_NR (x_XC D cl w0 A E) args s mc9 ms9 A) (F0 m pc ls st0) :=
  XT.callV hXk CF hM hcw hK hP hD hS hA hX isC hC hn1 he hc hn hst hsize hW hdg hf (fun q9 ce H1 locs1 hP1 hS1 hce hcv hcl =>
    vx_out (fun x hx => (hex x hx).elim) hlocks hce hcv hcl (fun t ht hv => ⟨rfl, by rw [ht]; exact x_cut hP1 is0 h0, ⟨by rw [ht]; exact hS1.1, fun q h1 h2 => by rw [ht]; exact hS1.2.1 q h1 h2⟩⟩) hS1.2.2 hm1 hm2)
end XThrowCall
