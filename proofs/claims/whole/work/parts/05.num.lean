/-! rows on numbers and copies, my own -/
theorem x_i10 {P : Prop} [Decidable P] : ((if P then (1 : Int32) else 0) = 0) ↔ ¬ P := by
  by_cases h : P
  · simp [h]
  · simp [h]
theorem x_i01 {P : Prop} [Decidable P] : ((if P then (0 : Int32) else 1) = 0) ↔ P := by
  by_cases h : P
  · simp [h]
  · simp [h]
/-- x is one of the numbers 0 .. n - 1 -/
def xHas (n : Nat) (x : Int32) : Bool := !(decide (x < 0)) && !(decide (nI n ≤ x))
theorem xHas_f1 {n : Nat} {x : Int32} (h : x < 0) : xHas n x = false := by simp [xHas, h]
theorem xHas_f2 {n : Nat} {x : Int32} (h : nI n ≤ x) : xHas n x = false := by simp [xHas, h]
theorem xHas_t {n : Nat} {x : Int32} (h : ¬ x < 0) (h2 : ¬ nI n ≤ x) : xHas n x = true := by simp [xHas, h, h2]
theorem xHas_of {n : Nat} {x : Int32} (h : xHas n x = true) : ¬ x < 0 ∧ ¬ nI n ≤ x := by
  simp only [xHas, Bool.and_eq_true, Bool.not_eq_true', decide_eq_false_iff_not] at h
  exact h
theorem xHas_ix {n : Nat} {x : Int32} (h : xHas n x = true) (hn : n < 2 ^ 31) : x = nI x.toNatClampNeg ∧ x.toNatClampNeg < n := ⟨x_nn (xHas_of h).1, x_ltn (xHas_of h).1 (xHas_of h).2 hn⟩
theorem xHas_nI {n a : Nat} (h : a < n) (hn : n < 2 ^ 31) : xHas n (nI a) = true := xHas_t (nI_pos (Nat.lt_trans h hn)) (nI_ge h hn)
/-- a flag as the machine holds it -/
def x_b (b : Bool) : Int32 := if b then 1 else 0
theorem x_b_n (b : Bool) : narrow .boolean (.int (x_b b)) = .int (x_b b) := by cases b <;> rfl
theorem x_b0 {b : Bool} : (x_b b = 0) ↔ b = false := by cases b <;> simp [x_b]
theorem x_min {n : Nat} {k : Nat} (h : n ≤ k) (hk : k < 2 ^ 31) : (if nI k < nI n then nI k else nI n) = nI n := if_neg (nI_nlt h hk)
section XCopy
variable {p : Program} {l : Launch} {e : Env} {R : Room} {s : State} {m : MethodId} {args : Array Value} {below : List Frame} {meth : Method} {c : Code} {H H0 : Heap} {locs : List Loc} {cells slots : Nat} {Q : State → Prop} {cc : ByteArray} {pc : Nat} {ls : Array Slot} {rest : List Value} {D : va_G} {cl : List vw_C} {tys : List (ClassId × FieldType)} {ws : va_W} {A : Nat → Prop} {a : Nat}
theorem x_copyi (hexec : p.tables.exec = Jvm.exec) (hb : c.code = cc) (hml : c.maxLocals = ls.size) {own : String} {index : Nat} (hown : s.vm.findClass own = some m.cls) (hlink : (Cond.methodLink own index arraycopyName).before args s = true) (hnat : (Cond.native arraycopyName).before args s = true) (hstat : (Cond.static arraycopyName).before args s = true) (hini : (Cond.initialized "java/lang/System").before args s = true)
    (hK : va_K D cl tys s) (hP : va_P D cl ws H) (hD : va_D A ws) (hS : va_S A H0 H locs) (q0 q1 t0 t1 : Nat) {a0 : Nat} {c0 c1 : ClassId} {n0 n1 ps pd k : Nat} {f g : Nat → Int32} (ha0 : ws[q0]? = some (a0, .inl (c0, n0, .inl f))) (ha1 : ws[q1]? = some (a, .inl (c1, n1, .inl g))) (ht0 : tys[t0]? = some (c0, .int)) (ht1 : tys[t1]? = some (c1, .int))
    {sp dp n : Int32} (e1 : sp = nI ps) (e2 : dp = nI pd) (e3 : n = nI k) (h4 : ps + k ≤ n0) (h5 : pd + k ≤ n1) (h0 : n0 < 2 ^ 31) (h1 : n1 < 2 ^ 31)
    (hframes : 1 ≤ R.frames) (hlocals : (rest.map fun v => v.category).sum + (nativeFrameWords "java/lang/System" "arraycopy" 5 + 11) ≤ R.locals) (hdg : decode cc pc = .ok (.invokestatic index, 3))
    (kk : ∀ (H1 : Heap) (locs1 : List Loc), va_P D cl (ws.set q1 (a, .inl (c1, n1, .inl (va_cpy f g ps pd k)))) H1 → va_D A (ws.set q1 (a, .inl (c1, n1, .inl (va_cpy f g ps pd k)))) → va_S A H0 H1 locs1 → W p l e R s m args below meth c H1 locs1 cells slots Q (F0 m (pc + 3) ls rest)) : W p l e R s m args below meth c H locs cells slots Q (F0 m pc ls (.int n :: .int dp :: .ref a :: .int sp :: .ref a0 :: rest)) := by
  subst e1; subst e2; subst e3
  have c1' : (nI ps).toNatClampNeg = ps := nI_clamp (by omega)
  have c2' : (nI pd).toNatClampNeg = pd := nI_clamp (by omega)
  have c3' : (nI k).toNatClampNeg = k := nI_clamp (by omega)
  refine va_copyi hexec hb hml hown hlink hnat hstat hini hK hP hD hS q0 q1 t0 t1 ha0 ha1 ht0 ht1 rfl (nI_pos (by omega)) (nI_pos (by omega)) (nI_pos (by omega)) (by rw [c1', c3']; exact h4) (by rw [c2', c3']; exact h5) (fun _ _ => rfl) hframes hlocals hdg ?_
  rw [c1', c2', c3']; exact kk
theorem x_copyl (hexec : p.tables.exec = Jvm.exec) (hb : c.code = cc) (hml : c.maxLocals = ls.size) {own : String} {index : Nat} (hown : s.vm.findClass own = some m.cls) (hlink : (Cond.methodLink own index arraycopyName).before args s = true) (hnat : (Cond.native arraycopyName).before args s = true) (hstat : (Cond.static arraycopyName).before args s = true) (hini : (Cond.initialized "java/lang/System").before args s = true)
    (hK : va_K D cl tys s) (hP : va_P D cl ws H) (hD : va_D A ws) (hS : va_S A H0 H locs) (q0 q1 t0 t1 : Nat) {a0 : Nat} {c0 c1 : ClassId} {n0 n1 ps pd k : Nat} {f g : Nat → Int64} (ha0 : ws[q0]? = some (a0, .inl (c0, n0, .inr (.inl f)))) (ha1 : ws[q1]? = some (a, .inl (c1, n1, .inr (.inl g)))) (ht0 : tys[t0]? = some (c0, .long)) (ht1 : tys[t1]? = some (c1, .long))
    {sp dp n : Int32} (e1 : sp = nI ps) (e2 : dp = nI pd) (e3 : n = nI k) (h4 : ps + k ≤ n0) (h5 : pd + k ≤ n1) (h0 : n0 < 2 ^ 31) (h1 : n1 < 2 ^ 31)
    (hframes : 1 ≤ R.frames) (hlocals : (rest.map fun v => v.category).sum + (nativeFrameWords "java/lang/System" "arraycopy" 5 + 11) ≤ R.locals) (hdg : decode cc pc = .ok (.invokestatic index, 3))
    (kk : ∀ (H1 : Heap) (locs1 : List Loc), va_P D cl (ws.set q1 (a, .inl (c1, n1, .inr (.inl (va_cpy f g ps pd k))))) H1 → va_D A (ws.set q1 (a, .inl (c1, n1, .inr (.inl (va_cpy f g ps pd k))))) → va_S A H0 H1 locs1 → W p l e R s m args below meth c H1 locs1 cells slots Q (F0 m (pc + 3) ls rest)) : W p l e R s m args below meth c H locs cells slots Q (F0 m pc ls (.int n :: .int dp :: .ref a :: .int sp :: .ref a0 :: rest)) := by
  subst e1; subst e2; subst e3
  have c1' : (nI ps).toNatClampNeg = ps := nI_clamp (by omega)
  have c2' : (nI pd).toNatClampNeg = pd := nI_clamp (by omega)
  have c3' : (nI k).toNatClampNeg = k := nI_clamp (by omega)
  refine va_copyl hexec hb hml hown hlink hnat hstat hini hK hP hD hS q0 q1 t0 t1 ha0 ha1 ht0 ht1 rfl (nI_pos (by omega)) (nI_pos (by omega)) (nI_pos (by omega)) (by rw [c1', c3']; exact h4) (by rw [c2', c3']; exact h5) (fun _ _ => rfl) hframes hlocals hdg ?_
  rw [c1', c2', c3']; exact kk
end XCopy
