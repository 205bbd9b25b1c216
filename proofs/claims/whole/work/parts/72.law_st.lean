theorem gw52 : .instantiable RLed 7 ∈ xG := List.mem_filter.mpr ⟨List.mem_of_getElem? (i := 52) (by decide +kernel), by decide +kernel⟩
theorem gw639 : .instantiable RMod 34 ∈ xG := List.mem_filter.mpr ⟨List.mem_of_getElem? (i := 639) (by decide +kernel), by decide +kernel⟩
theorem x_known {s : State} {args : Array Value} (htg : ∀ w ∈ xG, w.before args s = true) : ∃ (dC : Nat → ClassId) (dI : Nat → Nat → Nat), ∀ (k : Nat) (q : vw_C), xCl[k]? = some q → u_Kn s q.1 q.2.1 q.2.2 (dC k) (dI k) := by
  obtain ⟨c0, i0, h0⟩ := u_known (C := RBal) (T := TBal) (N := 2) (n := 2) htg layBal (htg _ gw78)
  obtain ⟨c1, i1, h1⟩ := u_known (C := RCod) (T := TCod) (N := 3) (n := 3) htg layCod (htg _ gw60)
  obtain ⟨c2, i2, h2⟩ := u_known (C := RRow) (T := TRow) (N := 2) (n := 2) htg layRow (htg _ gw117)
  obtain ⟨c3, i3, h3⟩ := u_known (C := RRun) (T := TRun) (N := 17) (n := 17) htg layRun (htg _ gw133)
  obtain ⟨c4, i4, h4⟩ := u_known (C := RSto) (T := TSto) (N := 6) (n := 6) htg laySto (htg _ gw91)
  obtain ⟨c5, i5, h5⟩ := u_known (C := RLed) (T := TLed) (N := 7) (n := 7) htg layLed (htg _ gw52)
  obtain ⟨c6, i6, h6⟩ := u_known (C := RMod) (T := TMod) (N := 34) (n := 34) htg layMod (htg _ gw639)
  refine ⟨fun k => match k with | 0 => c0 | 1 => c1 | 2 => c2 | 3 => c3 | 4 => c4 | 5 => c5 | _ => c6, fun k => match k with | 0 => i0 | 1 => i1 | 2 => i2 | 3 => i3 | 4 => i4 | 5 => i5 | _ => i6, ?_⟩
  intro k q hq
  match k, hq with
  | 0, hq => cases hq; exact h0
  | 1, hq => cases hq; exact h1
  | 2, hq => cases hq; exact h2
  | 3, hq => cases hq; exact h3
  | 4, hq => cases hq; exact h4
  | 5, hq => cases hq; exact h5
  | 6, hq => cases hq; exact h6
  | k + 7, hq => simp [xCl] at hq
theorem x_arr {s : State} {args : Array Value} {ty : FieldType} (h : (Cond.arrayClass ty).before args s = true) : ∃ cA : ClassId, ArrOfT s cA ty ∧ s.vm.findClass ("[" ++ ty.toString) = some cA := by
  obtain ⟨cA, kA, comp, h1, h2, h3⟩ := Cond.arrayClass_spec (args := args) (first := s) (o := none) (s := s) (idx := []) h
  exact ⟨cA, fun n z => ⟨fun k h => (by cases h), kA, h2, comp, h3⟩, h1⟩
set_option maxRecDepth 100000 in
theorem x_tabP : ∀ k : Fin 30, (Cond.eq (.elem (.static "CallLedger" "PRICES" "[I") (.int (Int32.ofNat k.val))) (.int (fPrice k.val))) ∈ flatC (Jvm.Cond.and given_1 narrow_1) := by decide +kernel
set_option maxRecDepth 100000 in
theorem x_tabN : ∀ k : Fin 30, (Cond.eq (.elem (.static "CallLedger" "NEEDS" "[I") (.int (Int32.ofNat k.val))) (.int (fNeed k.val))) ∈ flatC (Jvm.Cond.and given_1 narrow_1) := by decide +kernel
set_option maxRecDepth 100000 in
theorem x_strs : ∀ k ∈ xStr, Cond.stringRef RLed k.1 k.2 ∈ lw_tbl ∧ Cond.exactly (.string RLed k.1) "java/lang/String" ∈ flatC (Jvm.Cond.and given_1 narrow_1) := by decide +kernel
set_option maxRecDepth 100000 in
theorem xNY_in : ∀ w ∈ xNY, w ∈ lw_tbl ∨ w ∈ flatC (Jvm.Cond.and given_1 narrow_1) := by decide +kernel
set_option maxRecDepth 100000 in
theorem x_start {s : State} {b : Nat} (hts0 : ∀ w ∈ lw_tbl, w.before #[Value.ref b] s = true) (hgv : (Jvm.Cond.and given_1 narrow_1).before #[Value.ref b] s = true) : stY (fun q : Nat => s.heap.size ≤ q) s := by
  have hs := flat_of_before _ hgv
  have hA : ∀ a : Nat, a < s.heap.size → ¬ (fun q : Nat => s.heap.size ≤ q) a := fun a h => Nat.not_le.mpr h
  obtain ⟨t1, e1, T1⟩ := va_Tof (tm := .static "CallLedger" "PRICES" "[I") (ty := .int) (N := 30) (f := fun j => .int (fPrice j)) (A := fun q : Nat => s.heap.size ≤ q) (by decide) (hs _ (by decide +kernel)) (va_eqt (hs _ (by decide +kernel))) (fun j hj => va_eqt (hs _ (x_tabP ⟨j, hj⟩))) hA
  obtain ⟨t2, e2, T2⟩ := va_Tof (tm := .static "CallLedger" "NEEDS" "[I") (ty := .int) (N := 30) (f := fun j => .int (fNeed j)) (A := fun q : Nat => s.heap.size ≤ q) (by decide) (hs _ (by decide +kernel)) (va_eqt (hs _ (by decide +kernel))) (fun j hj => va_eqt (hs _ (x_tabN ⟨j, hj⟩))) hA
  have z1 := va_Zref (hts0 (.laysStatic "CallLedger" "PRICES" "[I") (by decide +kernel)) (hts0 (.initialized "CallLedger") (by decide +kernel)) e1 hA
  have z2 := va_Zref (hts0 (.laysStatic "CallLedger" "NEEDS" "[I") (by decide +kernel)) (hts0 (.initialized "CallLedger") (by decide +kernel)) e2 hA
  have q1 : vx_Zq "java/lang/Throwable" "UNASSIGNED_STACK" "[Ljava/lang/StackTraceElement;" (fun q : Nat => s.heap.size ≤ q) s s.heap := vx_Zqof (hts0 _ (by decide +kernel)) (hts0 (.initialized "java/lang/Throwable") (by decide +kernel)) (hs _ (by decide +kernel)) hA
  have q2 : vx_Zq "java/lang/Throwable" "SUPPRESSED_SENTINEL" "Ljava/util/List;" (fun q : Nat => s.heap.size ≤ q) s s.heap := vx_Zqof (hts0 _ (by decide +kernel)) (hts0 (.initialized "java/lang/Throwable") (by decide +kernel)) (hs _ (by decide +kernel)) hA
  refine ⟨⟨fun w h => va_Nw.of (xN_tab w h) (hts0 w (xN_in w h)), ⟨t1, z1, T1⟩, ⟨t2, z2, T2⟩, q1.1, q2.1⟩, fun w h => va_Nw.of (xNY_tab w h) ((xNY_in w h).elim (hts0 w) (hs w)), q1.2, q2.2, fun k hk => ?_, va_Nc.of (hs _ (by decide +kernel)), va_Nc.of (hs _ (by decide +kernel))⟩
  obtain ⟨h1, h2⟩ := x_strs k hk
  obtain ⟨a, c, cA, kA, r1, -⟩ := Cond.exactly_spec (args := #[Value.ref b]) (first := s) (o := none) (s := s) (idx := []) (hs _ h2)
  exact ⟨a, vk_R.of (hts0 _ h1) r1⟩
