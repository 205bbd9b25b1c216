theorem dRow_init_0 : decode cRow_init 0 = .ok (.aload_n 0, 1) := by decide +kernel
theorem dRow_init_1 : decode cRow_init 1 = .ok (.invokespecial 1, 3) := by decide +kernel
theorem dRow_init_4 : decode cRow_init 4 = .ok (.aload_n 0, 1) := by decide +kernel
theorem dRow_init_5 : decode cRow_init 5 = .ok (.iload_n 1, 1) := by decide +kernel
theorem dRow_init_6 : decode cRow_init 6 = .ok (.iconst 0, 1) := by decide +kernel
theorem dRow_init_7 : decode cRow_init 7 = .ok (.invokestatic 7, 3) := by decide +kernel
theorem dRow_init_10 : decode cRow_init 10 = .ok (.newarray .int, 2) := by decide +kernel
theorem dRow_init_12 : decode cRow_init 12 = .ok (.putfield 13, 3) := by decide +kernel
theorem dRow_init_15 : decode cRow_init 15 = .ok (.return_, 1) := by decide +kernel
theorem dBal_init_0 : decode cBal_init 0 = .ok (.aload_n 0, 1) := by decide +kernel
theorem dBal_init_1 : decode cBal_init 1 = .ok (.invokespecial 3, 3) := by decide +kernel
theorem dBal_init_4 : decode cBal_init 4 = .ok (.aload_n 0, 1) := by decide +kernel
theorem dBal_init_5 : decode cBal_init 5 = .ok (.bipush 24, 2) := by decide +kernel
theorem dBal_init_7 : decode cBal_init 7 = .ok (.newarray .int, 2) := by decide +kernel
theorem dBal_init_9 : decode cBal_init 9 = .ok (.putfield 9, 3) := by decide +kernel
theorem dBal_init_12 : decode cBal_init 12 = .ok (.return_, 1) := by decide +kernel
theorem dCod_init_0 : decode cCod_init 0 = .ok (.aload_n 0, 1) := by decide +kernel
theorem dCod_init_1 : decode cCod_init 1 = .ok (.invokespecial 3, 3) := by decide +kernel
theorem dCod_init_4 : decode cCod_init 4 = .ok (.aload_n 0, 1) := by decide +kernel
theorem dCod_init_5 : decode cCod_init 5 = .ok (.sipush 3840, 3) := by decide +kernel
theorem dCod_init_8 : decode cCod_init 8 = .ok (.newarray .int, 2) := by decide +kernel
theorem dCod_init_10 : decode cCod_init 10 = .ok (.putfield 9, 3) := by decide +kernel
theorem dCod_init_13 : decode cCod_init 13 = .ok (.aload_n 0, 1) := by decide +kernel
theorem dCod_init_14 : decode cCod_init 14 = .ok (.bipush 24, 2) := by decide +kernel
theorem dCod_init_16 : decode cCod_init 16 = .ok (.newarray .int, 2) := by decide +kernel
theorem dCod_init_18 : decode cCod_init 18 = .ok (.putfield 15, 3) := by decide +kernel
theorem dCod_init_21 : decode cCod_init 21 = .ok (.aload_n 0, 1) := by decide +kernel
theorem dCod_init_22 : decode cCod_init 22 = .ok (.bipush 24, 2) := by decide +kernel
theorem dCod_init_24 : decode cCod_init 24 = .ok (.newarray .boolean, 2) := by decide +kernel
theorem dCod_init_26 : decode cCod_init 26 = .ok (.putfield 18, 3) := by decide +kernel
theorem dCod_init_29 : decode cCod_init 29 = .ok (.return_, 1) := by decide +kernel
theorem dSto_init_0 : decode cSto_init 0 = .ok (.aload_n 0, 1) := by decide +kernel
theorem dSto_init_1 : decode cSto_init 1 = .ok (.invokespecial 3, 3) := by decide +kernel
theorem dSto_init_4 : decode cSto_init 4 = .ok (.aload_n 0, 1) := by decide +kernel
theorem dSto_init_5 : decode cSto_init 5 = .ok (.sipush 500, 3) := by decide +kernel
theorem dSto_init_8 : decode cSto_init 8 = .ok (.newarray .long, 2) := by decide +kernel
theorem dSto_init_10 : decode cSto_init 10 = .ok (.putfield 9, 3) := by decide +kernel
theorem dSto_init_13 : decode cSto_init 13 = .ok (.aload_n 0, 1) := by decide +kernel
theorem dSto_init_14 : decode cSto_init 14 = .ok (.sipush 500, 3) := by decide +kernel
theorem dSto_init_17 : decode cSto_init 17 = .ok (.newarray .int, 2) := by decide +kernel
theorem dSto_init_19 : decode cSto_init 19 = .ok (.putfield 15, 3) := by decide +kernel
theorem dSto_init_22 : decode cSto_init 22 = .ok (.aload_n 0, 1) := by decide +kernel
theorem dSto_init_23 : decode cSto_init 23 = .ok (.sipush 500, 3) := by decide +kernel
theorem dSto_init_26 : decode cSto_init 26 = .ok (.newarray .long, 2) := by decide +kernel
theorem dSto_init_28 : decode cSto_init 28 = .ok (.putfield 19, 3) := by decide +kernel
theorem dSto_init_31 : decode cSto_init 31 = .ok (.aload_n 0, 1) := by decide +kernel
theorem dSto_init_32 : decode cSto_init 32 = .ok (.sipush 500, 3) := by decide +kernel
theorem dSto_init_35 : decode cSto_init 35 = .ok (.newarray .int, 2) := by decide +kernel
theorem dSto_init_37 : decode cSto_init 37 = .ok (.putfield 22, 3) := by decide +kernel
theorem dSto_init_40 : decode cSto_init 40 = .ok (.return_, 1) := by decide +kernel
theorem dRun_init_0 : decode cRun_init 0 = .ok (.aload_n 0, 1) := by decide +kernel
theorem dRun_init_1 : decode cRun_init 1 = .ok (.invokespecial 3, 3) := by decide +kernel
theorem dRun_init_4 : decode cRun_init 4 = .ok (.aload_n 0, 1) := by decide +kernel
theorem dRun_init_5 : decode cRun_init 5 = .ok (.new 9, 3) := by decide +kernel
theorem dRun_init_8 : decode cRun_init 8 = .ok (.dup, 1) := by decide +kernel
theorem dRun_init_9 : decode cRun_init 9 = .ok (.bipush 32, 2) := by decide +kernel
theorem dRun_init_11 : decode cRun_init 11 = .ok (.invokespecial 11, 3) := by decide +kernel
theorem dRun_init_14 : decode cRun_init 14 = .ok (.putfield 14, 3) := by decide +kernel
theorem dRun_init_17 : decode cRun_init 17 = .ok (.aload_n 0, 1) := by decide +kernel
theorem dRun_init_18 : decode cRun_init 18 = .ok (.new 9, 3) := by decide +kernel
theorem dRun_init_21 : decode cRun_init 21 = .ok (.dup, 1) := by decide +kernel
theorem dRun_init_22 : decode cRun_init 22 = .ok (.bipush 8, 2) := by decide +kernel
theorem dRun_init_24 : decode cRun_init 24 = .ok (.invokespecial 11, 3) := by decide +kernel
theorem dRun_init_27 : decode cRun_init 27 = .ok (.putfield 20, 3) := by decide +kernel
theorem dRun_init_30 : decode cRun_init 30 = .ok (.aload_n 0, 1) := by decide +kernel
theorem dRun_init_31 : decode cRun_init 31 = .ok (.bipush 24, 2) := by decide +kernel
theorem dRun_init_33 : decode cRun_init 33 = .ok (.newarray .int, 2) := by decide +kernel
theorem dRun_init_35 : decode cRun_init 35 = .ok (.putfield 23, 3) := by decide +kernel
theorem dRun_init_38 : decode cRun_init 38 = .ok (.aload_n 0, 1) := by decide +kernel
theorem dRun_init_39 : decode cRun_init 39 = .ok (.aload_n 1, 1) := by decide +kernel
theorem dRun_init_40 : decode cRun_init 40 = .ok (.putfield 27, 3) := by decide +kernel
theorem dRun_init_43 : decode cRun_init 43 = .ok (.aload_n 0, 1) := by decide +kernel
theorem dRun_init_44 : decode cRun_init 44 = .ok (.aload_n 2, 1) := by decide +kernel
theorem dRun_init_45 : decode cRun_init 45 = .ok (.putfield 31, 3) := by decide +kernel
theorem dRun_init_48 : decode cRun_init 48 = .ok (.aload_n 0, 1) := by decide +kernel
theorem dRun_init_49 : decode cRun_init 49 = .ok (.aload_n 3, 1) := by decide +kernel
theorem dRun_init_50 : decode cRun_init 50 = .ok (.putfield 35, 3) := by decide +kernel
theorem dRun_init_53 : decode cRun_init 53 = .ok (.aload_n 0, 1) := by decide +kernel
theorem dRun_init_54 : decode cRun_init 54 = .ok (.aload 4, 2) := by decide +kernel
theorem dRun_init_56 : decode cRun_init 56 = .ok (.putfield 39, 3) := by decide +kernel
theorem dRun_init_59 : decode cRun_init 59 = .ok (.aload_n 0, 1) := by decide +kernel
theorem dRun_init_60 : decode cRun_init 60 = .ok (.aload 5, 2) := by decide +kernel
theorem dRun_init_62 : decode cRun_init 62 = .ok (.putfield 42, 3) := by decide +kernel
theorem dRun_init_65 : decode cRun_init 65 = .ok (.return_, 1) := by decide +kernel
theorem gw57 : .instanceMethod objectInit ∈ xG := List.mem_filter.mpr ⟨List.mem_of_getElem? (i := 57) (by decide +kernel), by decide +kernel⟩
theorem gw58 : .code objectInit ⟨#[0xb1]⟩ 1 none ∈ xG := List.mem_filter.mpr ⟨List.mem_of_getElem? (i := 58) (by decide +kernel), by decide +kernel⟩
theorem gw64 : .methodLink RCod 3 objectInit ∈ xG := List.mem_filter.mpr ⟨List.mem_of_getElem? (i := 64) (by decide +kernel), by decide +kernel⟩
theorem gw75 : .arrayClass .int ∈ xG := List.mem_filter.mpr ⟨List.mem_of_getElem? (i := 75) (by decide +kernel), by decide +kernel⟩
theorem gw76 : .arrayClass .boolean ∈ xG := List.mem_filter.mpr ⟨List.mem_of_getElem? (i := 76) (by decide +kernel), by decide +kernel⟩
theorem gw82 : .methodLink RBal 3 objectInit ∈ xG := List.mem_filter.mpr ⟨List.mem_of_getElem? (i := 82) (by decide +kernel), by decide +kernel⟩
theorem gw95 : .methodLink RSto 3 objectInit ∈ xG := List.mem_filter.mpr ⟨List.mem_of_getElem? (i := 95) (by decide +kernel), by decide +kernel⟩
theorem gw115 : .arrayClass .long ∈ xG := List.mem_filter.mpr ⟨List.mem_of_getElem? (i := 115) (by decide +kernel), by decide +kernel⟩
theorem gw117 : .instantiable RRow 2 ∈ xG := List.mem_filter.mpr ⟨List.mem_of_getElem? (i := 117) (by decide +kernel), by decide +kernel⟩
theorem gw119 : .instanceMethod yRow_init ∈ xG := List.mem_filter.mpr ⟨List.mem_of_getElem? (i := 119) (by decide +kernel), by decide +kernel⟩
theorem gw120 : .code yRow_init cRow_init 2 none ∈ xG := List.mem_filter.mpr ⟨List.mem_of_getElem? (i := 120) (by decide +kernel), by decide +kernel⟩
theorem gw121 : .methodLink RRow 1 objectInit ∈ xG := List.mem_filter.mpr ⟨List.mem_of_getElem? (i := 121) (by decide +kernel), by decide +kernel⟩
theorem gw122 : .methodLink RRow 7 Lib.Math.max.name ∈ xG := List.mem_filter.mpr ⟨List.mem_of_getElem? (i := 122) (by decide +kernel), by decide +kernel⟩
theorem gw123 : .static Lib.Math.max.name ∈ xG := List.mem_filter.mpr ⟨List.mem_of_getElem? (i := 123) (by decide +kernel), by decide +kernel⟩
theorem gw124 : .code Lib.Math.max.name Lib.Math.max.code 2 (some .int) ∈ xG := List.mem_filter.mpr ⟨List.mem_of_getElem? (i := 124) (by decide +kernel), by decide +kernel⟩
theorem gw137 : .methodLink RRun 3 objectInit ∈ xG := List.mem_filter.mpr ⟨List.mem_of_getElem? (i := 137) (by decide +kernel), by decide +kernel⟩
theorem gw138 : .classLink RRun 9 RRow ∈ xG := List.mem_filter.mpr ⟨List.mem_of_getElem? (i := 138) (by decide +kernel), by decide +kernel⟩
theorem gw139 : .methodLink RRun 11 yRow_init ∈ xG := List.mem_filter.mpr ⟨List.mem_of_getElem? (i := 139) (by decide +kernel), by decide +kernel⟩
section XNew
variable {p : Program} {l : Launch} {e : Env} {R : Room} {s : State} {m : MethodId} {args : Array Value} {below : List Frame} {meth : Method} {c : Code} {H H0 : Heap} {locs : List Loc} {cells slots : Nat} {Q : State → Prop} {cc : ByteArray} {pc : Nat} {ls : Array Slot} {rest : List Value} {D : va_G} {cl : List vw_C} {kI kJ kZ : ClassId} {ws : va_W} {A : Nat → Prop} {N : Nat} {n : Int32}
theorem x_newaI (hexec : p.tables.exec = Jvm.exec) (hb : c.code = cc) (harr : (Cond.arrayClass .int).before args s = true) (hK : va_K D cl (x_T kI kJ kZ) s) (hP : va_P D cl ws H) (hD : va_D A ws) (hS : va_S A H0 H locs) (hA : ∀ q, H0.size ≤ q → A q)
    (hN : n = nI N) (hbytes : N ≤ 67108864) (hcells : cells + 1 ≤ R.cells) (hslots : slots + N ≤ R.slots) (hdg : decode cc pc = .ok (.newarray .int, 2))
    (kk : ∀ (q : Nat) (H1 : Heap), va_P D cl (ws ++ [(q, .inl (kI, N, .inl (fun _ => 0)))]) H1 → va_D A (ws ++ [(q, .inl (kI, N, .inl (fun _ => 0)))]) → va_S A H0 H1 locs →
      W p l e R s m args below meth c H1 locs (cells + 1) (slots + N) Q (F0 m (pc + 2) ls (.ref q :: rest))) : W p l e R s m args below meth c H locs cells slots Q (F0 m pc ls (.int n :: rest)) := by
  subst hN
  refine va_newa (atype := .int) (ty := .int) (a0 := (N, .inl (fun _ => 0))) hexec hb harr rfl hK hP hD hS hA (fun _ => rfl) (nI_pos (by omega)) (nI_clamp (by omega)) (show N * 4 ≤ _ by omega) hcells hslots hdg (fun q cA H1 hK1 hP1 hD1 hS1 => ?_)
  have e1 : s.vm.findClass "[I" = some cA := va_nm_int (hK1.2 3 (cA, .int) rfl).2
  have e2 : s.vm.findClass "[I" = some kI := va_nm_int (hK.2 0 (kI, .int) rfl).2
  have e3 : cA = kI := Option.some.inj (e1.symm.trans e2)
  subst e3
  exact kk q H1 hP1 hD1 hS1
theorem x_newaJ (hexec : p.tables.exec = Jvm.exec) (hb : c.code = cc) (harr : (Cond.arrayClass .long).before args s = true) (hK : va_K D cl (x_T kI kJ kZ) s) (hP : va_P D cl ws H) (hD : va_D A ws) (hS : va_S A H0 H locs) (hA : ∀ q, H0.size ≤ q → A q)
    (hN : n = nI N) (hbytes : N ≤ 67108864) (hcells : cells + 1 ≤ R.cells) (hslots : slots + N ≤ R.slots) (hdg : decode cc pc = .ok (.newarray .long, 2))
    (kk : ∀ (q : Nat) (H1 : Heap), va_P D cl (ws ++ [(q, .inl (kJ, N, .inr (.inl (fun _ => 0))))]) H1 → va_D A (ws ++ [(q, .inl (kJ, N, .inr (.inl (fun _ => 0))))]) → va_S A H0 H1 locs →
      W p l e R s m args below meth c H1 locs (cells + 1) (slots + N) Q (F0 m (pc + 2) ls (.ref q :: rest))) : W p l e R s m args below meth c H locs cells slots Q (F0 m pc ls (.int n :: rest)) := by
  subst hN
  refine va_newa (atype := .long) (ty := .long) (a0 := (N, .inr (.inl (fun _ => 0)))) hexec hb harr rfl hK hP hD hS hA (fun _ => rfl) (nI_pos (by omega)) (nI_clamp (by omega)) (show N * 8 ≤ _ by omega) hcells hslots hdg (fun q cA H1 hK1 hP1 hD1 hS1 => ?_)
  have e1 : s.vm.findClass "[J" = some cA := va_nm_long (hK1.2 3 (cA, .long) rfl).2
  have e2 : s.vm.findClass "[J" = some kJ := va_nm_long (hK.2 1 (kJ, .long) rfl).2
  have e3 : cA = kJ := Option.some.inj (e1.symm.trans e2)
  subst e3
  exact kk q H1 hP1 hD1 hS1
theorem x_newaZ (hexec : p.tables.exec = Jvm.exec) (hb : c.code = cc) (harr : (Cond.arrayClass .boolean).before args s = true) (hK : va_K D cl (x_T kI kJ kZ) s) (hP : va_P D cl ws H) (hD : va_D A ws) (hS : va_S A H0 H locs) (hA : ∀ q, H0.size ≤ q → A q)
    (hN : n = nI N) (hbytes : N ≤ 67108864) (hcells : cells + 1 ≤ R.cells) (hslots : slots + N ≤ R.slots) (hdg : decode cc pc = .ok (.newarray .boolean, 2))
    (kk : ∀ (q : Nat) (H1 : Heap), va_P D cl (ws ++ [(q, .inl (kZ, N, .inl (fun _ => 0)))]) H1 → va_D A (ws ++ [(q, .inl (kZ, N, .inl (fun _ => 0)))]) → va_S A H0 H1 locs →
      W p l e R s m args below meth c H1 locs (cells + 1) (slots + N) Q (F0 m (pc + 2) ls (.ref q :: rest))) : W p l e R s m args below meth c H locs cells slots Q (F0 m pc ls (.int n :: rest)) := by
  subst hN
  refine va_newa (atype := .boolean) (ty := .boolean) (a0 := (N, .inl (fun _ => 0))) hexec hb harr rfl hK hP hD hS hA (fun _ => rfl) (nI_pos (by omega)) (nI_clamp (by omega)) (show N * 1 ≤ _ by omega) hcells hslots hdg (fun q cA H1 hK1 hP1 hD1 hS1 => ?_)
  have e1 : s.vm.findClass "[Z" = some cA := va_nm_boolean (hK1.2 3 (cA, .boolean) rfl).2
  have e2 : s.vm.findClass "[Z" = some kZ := va_nm_boolean (hK.2 2 (kZ, .boolean) rfl).2
  have e3 : cA = kZ := Option.some.inj (e1.symm.trans e2)
  subst e3
  exact kk q H1 hP1 hD1 hS1
end XNew
set_option maxHeartbeats 4000000 in
set_option maxRecDepth 100000 in
theorem kRow_init300 (l : Launch) (dC : Nat → ClassId) (dI : Nat → Nat → Nat) (kI kJ kZ : ClassId) (x0 : Nat)  :
    XM stX l yRow_init wRow_init { frames := 1, cells := 1, slots := 300, locals := 21 } (dC, dI) xCl (x_T kI kJ kZ) [(x0, .inr (2, [.null, .int 0]))] [.ref x0, .int 300] 1 300 x_eV (fun (r : Unit) (u : Nat) => True) (fun (u : Nat) => [(x0, .inr (2, [.ref u, .int 0])), (u, .inl (kI, 300, .inl (fun _ => 0)))]) := by
  refine XM.ofV (cc := cRow_init) (maxL := 2) (by decide) rfl (Nat.le_of_ble_eq_true rfl) ?_
  intro p e s m below meth c A Q hx hb hr hml hown hts hlocks hin hA hK hP hD hX hS ls hl hret
  have hl : lv_has ls 2 [(0, .ref x0), (1, .int 300)] := hl
  refine lv_aload_n hx hb dRow_init_0 rfl (lv_at hl 0 rfl) ?_
  refine W.objInit hx hb hown (hts (.methodLink RRow 1 objectInit) (List.mem_cons_of_mem _ gw121)) (hts (.instanceMethod objectInit) (List.mem_cons_of_mem _ gw57)) (hts (.code objectInit ⟨#[0xb1]⟩ 1 none) (List.mem_cons_of_mem _ gw58)) rfl (by rw [hml]; exact hl.1) rfl dRow_init_1 (Nat.le_of_ble_eq_true rfl) (Nat.le_of_ble_eq_true rfl) ?_
  refine W.eq (g2 := F0 m 4 ls []) rfl ?_
  refine lv_aload_n hx hb dRow_init_4 rfl (lv_at hl 0 rfl) ?_
  refine lv_iload_n hx hb dRow_init_5 rfl (lv_at hl 1 rfl) ?_
  refine lv_iconst (v := 0) hx hb dRow_init_6 (by decide) ?_
  refine va_mmax hx hb (hml.trans hl.1.symm) hown (hts (.methodLink RRow 7 Lib.Math.max.name) (List.mem_cons_of_mem _ gw122)) (hts (.static Lib.Math.max.name) (List.mem_cons_of_mem _ gw123)) (hts (.initialized "java/lang/Math") (List.mem_cons_of_mem _ gw41)) (hts (.code Lib.Math.max.name Lib.Math.max.code 2 (some .int)) (List.mem_cons_of_mem _ gw124)) (Nat.le_of_ble_eq_true rfl) (Nat.le_of_ble_eq_true rfl) (Nat.le_of_ble_eq_true rfl) (Nat.le_of_ble_eq_true rfl) dRow_init_7 ?_
  refine x_newaI (N := 300) hx hb (hts (.arrayClass .int) (List.mem_cons_of_mem _ gw75)) hK hP hD hS hA (by decide) (Nat.le_of_ble_eq_true rfl) (Nat.le_of_ble_eq_true rfl) (Nat.le_of_ble_eq_true rfl) dRow_init_10 (fun a_1 H hP hD hS => ?_)
  have hP : va_P (dC, dI) xCl [(x0, .inr (2, [.null, .int 0])), (a_1, .inl (kI, 300, .inl (fun _ => 0)))] H := hP
  have hD : va_D A [(x0, .inr (2, [.null, .int 0])), (a_1, .inl (kI, 300, .inl (fun _ => 0)))] := hD
  refine va_putF (D := (dC, dI)) (ci := 2) (v := .ref a_1) (ty := .array .int) (C := RRow) (T := TRow) (N := 2) hx hb hts (fun w h => List.mem_cons_of_mem _ (layRow w h)) tyRow tykRow nmRow hown hK hP hD hS 0 rfl rfl 0 (by decide) (hts (.fieldLink RRow 13 "CallLedger$Row" "numbers" "[I") (List.mem_cons_of_mem _ gw125)) (fun _ h9 => h9) rfl hin rfl (by decide +kernel) rfl rfl (Nat.le_of_ble_eq_true rfl) dRow_init_12 (fun H locs hP hD hS => ?_)
  have hP : va_P (dC, dI) xCl [(x0, .inr (2, [.ref a_1, .int 0])), (a_1, .inl (kI, 300, .inl (fun _ => 0)))] H := hP
  have hD : va_D A [(x0, .inr (2, [.ref a_1, .int 0])), (a_1, .inl (kI, 300, .inl (fun _ => 0)))] := hD
  exact hret  (a_1) _ _ _ (trivial) (hP.sub [0, 1] rfl) (hD.sub [0, 1] (by decide) rfl) hS dRow_init_15

set_option maxHeartbeats 4000000 in
set_option maxRecDepth 100000 in
theorem kRow_init32 (l : Launch) (dC : Nat → ClassId) (dI : Nat → Nat → Nat) (kI kJ kZ : ClassId) (x0 : Nat)  :
    XM stX l yRow_init wRow_init { frames := 1, cells := 1, slots := 32, locals := 21 } (dC, dI) xCl (x_T kI kJ kZ) [(x0, .inr (2, [.null, .int 0]))] [.ref x0, .int 32] 1 32 x_eV (fun (r : Unit) (u : Nat) => True) (fun (u : Nat) => [(x0, .inr (2, [.ref u, .int 0])), (u, .inl (kI, 32, .inl (fun _ => 0)))]) := by
  refine XM.ofV (cc := cRow_init) (maxL := 2) (by decide) rfl (Nat.le_of_ble_eq_true rfl) ?_
  intro p e s m below meth c A Q hx hb hr hml hown hts hlocks hin hA hK hP hD hX hS ls hl hret
  have hl : lv_has ls 2 [(0, .ref x0), (1, .int 32)] := hl
  refine lv_aload_n hx hb dRow_init_0 rfl (lv_at hl 0 rfl) ?_
  refine W.objInit hx hb hown (hts (.methodLink RRow 1 objectInit) (List.mem_cons_of_mem _ gw121)) (hts (.instanceMethod objectInit) (List.mem_cons_of_mem _ gw57)) (hts (.code objectInit ⟨#[0xb1]⟩ 1 none) (List.mem_cons_of_mem _ gw58)) rfl (by rw [hml]; exact hl.1) rfl dRow_init_1 (Nat.le_of_ble_eq_true rfl) (Nat.le_of_ble_eq_true rfl) ?_
  refine W.eq (g2 := F0 m 4 ls []) rfl ?_
  refine lv_aload_n hx hb dRow_init_4 rfl (lv_at hl 0 rfl) ?_
  refine lv_iload_n hx hb dRow_init_5 rfl (lv_at hl 1 rfl) ?_
  refine lv_iconst (v := 0) hx hb dRow_init_6 (by decide) ?_
  refine va_mmax hx hb (hml.trans hl.1.symm) hown (hts (.methodLink RRow 7 Lib.Math.max.name) (List.mem_cons_of_mem _ gw122)) (hts (.static Lib.Math.max.name) (List.mem_cons_of_mem _ gw123)) (hts (.initialized "java/lang/Math") (List.mem_cons_of_mem _ gw41)) (hts (.code Lib.Math.max.name Lib.Math.max.code 2 (some .int)) (List.mem_cons_of_mem _ gw124)) (Nat.le_of_ble_eq_true rfl) (Nat.le_of_ble_eq_true rfl) (Nat.le_of_ble_eq_true rfl) (Nat.le_of_ble_eq_true rfl) dRow_init_7 ?_
  refine x_newaI (N := 32) hx hb (hts (.arrayClass .int) (List.mem_cons_of_mem _ gw75)) hK hP hD hS hA (by decide) (Nat.le_of_ble_eq_true rfl) (Nat.le_of_ble_eq_true rfl) (Nat.le_of_ble_eq_true rfl) dRow_init_10 (fun a_1 H hP hD hS => ?_)
  have hP : va_P (dC, dI) xCl [(x0, .inr (2, [.null, .int 0])), (a_1, .inl (kI, 32, .inl (fun _ => 0)))] H := hP
  have hD : va_D A [(x0, .inr (2, [.null, .int 0])), (a_1, .inl (kI, 32, .inl (fun _ => 0)))] := hD
  refine va_putF (D := (dC, dI)) (ci := 2) (v := .ref a_1) (ty := .array .int) (C := RRow) (T := TRow) (N := 2) hx hb hts (fun w h => List.mem_cons_of_mem _ (layRow w h)) tyRow tykRow nmRow hown hK hP hD hS 0 rfl rfl 0 (by decide) (hts (.fieldLink RRow 13 "CallLedger$Row" "numbers" "[I") (List.mem_cons_of_mem _ gw125)) (fun _ h9 => h9) rfl hin rfl (by decide +kernel) rfl rfl (Nat.le_of_ble_eq_true rfl) dRow_init_12 (fun H locs hP hD hS => ?_)
  have hP : va_P (dC, dI) xCl [(x0, .inr (2, [.ref a_1, .int 0])), (a_1, .inl (kI, 32, .inl (fun _ => 0)))] H := hP
  have hD : va_D A [(x0, .inr (2, [.ref a_1, .int 0])), (a_1, .inl (kI, 32, .inl (fun _ => 0)))] := hD
  exact hret  (a_1) _ _ _ (trivial) (hP.sub [0, 1] rfl) (hD.sub [0, 1] (by decide) rfl) hS dRow_init_15

set_option maxHeartbeats 4000000 in
set_option maxRecDepth 100000 in
theorem kRow_init8 (l : Launch) (dC : Nat → ClassId) (dI : Nat → Nat → Nat) (kI kJ kZ : ClassId) (x0 : Nat)  :
    XM stX l yRow_init wRow_init { frames := 1, cells := 1, slots := 8, locals := 21 } (dC, dI) xCl (x_T kI kJ kZ) [(x0, .inr (2, [.null, .int 0]))] [.ref x0, .int 8] 1 8 x_eV (fun (r : Unit) (u : Nat) => True) (fun (u : Nat) => [(x0, .inr (2, [.ref u, .int 0])), (u, .inl (kI, 8, .inl (fun _ => 0)))]) := by
  refine XM.ofV (cc := cRow_init) (maxL := 2) (by decide) rfl (Nat.le_of_ble_eq_true rfl) ?_
  intro p e s m below meth c A Q hx hb hr hml hown hts hlocks hin hA hK hP hD hX hS ls hl hret
  have hl : lv_has ls 2 [(0, .ref x0), (1, .int 8)] := hl
  refine lv_aload_n hx hb dRow_init_0 rfl (lv_at hl 0 rfl) ?_
  refine W.objInit hx hb hown (hts (.methodLink RRow 1 objectInit) (List.mem_cons_of_mem _ gw121)) (hts (.instanceMethod objectInit) (List.mem_cons_of_mem _ gw57)) (hts (.code objectInit ⟨#[0xb1]⟩ 1 none) (List.mem_cons_of_mem _ gw58)) rfl (by rw [hml]; exact hl.1) rfl dRow_init_1 (Nat.le_of_ble_eq_true rfl) (Nat.le_of_ble_eq_true rfl) ?_
  refine W.eq (g2 := F0 m 4 ls []) rfl ?_
  refine lv_aload_n hx hb dRow_init_4 rfl (lv_at hl 0 rfl) ?_
  refine lv_iload_n hx hb dRow_init_5 rfl (lv_at hl 1 rfl) ?_
  refine lv_iconst (v := 0) hx hb dRow_init_6 (by decide) ?_
  refine va_mmax hx hb (hml.trans hl.1.symm) hown (hts (.methodLink RRow 7 Lib.Math.max.name) (List.mem_cons_of_mem _ gw122)) (hts (.static Lib.Math.max.name) (List.mem_cons_of_mem _ gw123)) (hts (.initialized "java/lang/Math") (List.mem_cons_of_mem _ gw41)) (hts (.code Lib.Math.max.name Lib.Math.max.code 2 (some .int)) (List.mem_cons_of_mem _ gw124)) (Nat.le_of_ble_eq_true rfl) (Nat.le_of_ble_eq_true rfl) (Nat.le_of_ble_eq_true rfl) (Nat.le_of_ble_eq_true rfl) dRow_init_7 ?_
  refine x_newaI (N := 8) hx hb (hts (.arrayClass .int) (List.mem_cons_of_mem _ gw75)) hK hP hD hS hA (by decide) (Nat.le_of_ble_eq_true rfl) (Nat.le_of_ble_eq_true rfl) (Nat.le_of_ble_eq_true rfl) dRow_init_10 (fun a_1 H hP hD hS => ?_)
  have hP : va_P (dC, dI) xCl [(x0, .inr (2, [.null, .int 0])), (a_1, .inl (kI, 8, .inl (fun _ => 0)))] H := hP
  have hD : va_D A [(x0, .inr (2, [.null, .int 0])), (a_1, .inl (kI, 8, .inl (fun _ => 0)))] := hD
  refine va_putF (D := (dC, dI)) (ci := 2) (v := .ref a_1) (ty := .array .int) (C := RRow) (T := TRow) (N := 2) hx hb hts (fun w h => List.mem_cons_of_mem _ (layRow w h)) tyRow tykRow nmRow hown hK hP hD hS 0 rfl rfl 0 (by decide) (hts (.fieldLink RRow 13 "CallLedger$Row" "numbers" "[I") (List.mem_cons_of_mem _ gw125)) (fun _ h9 => h9) rfl hin rfl (by decide +kernel) rfl rfl (Nat.le_of_ble_eq_true rfl) dRow_init_12 (fun H locs hP hD hS => ?_)
  have hP : va_P (dC, dI) xCl [(x0, .inr (2, [.ref a_1, .int 0])), (a_1, .inl (kI, 8, .inl (fun _ => 0)))] H := hP
  have hD : va_D A [(x0, .inr (2, [.ref a_1, .int 0])), (a_1, .inl (kI, 8, .inl (fun _ => 0)))] := hD
  exact hret  (a_1) _ _ _ (trivial) (hP.sub [0, 1] rfl) (hD.sub [0, 1] (by decide) rfl) hS dRow_init_15

set_option maxHeartbeats 4000000 in
set_option maxRecDepth 100000 in
theorem kBal_init (l : Launch) (dC : Nat → ClassId) (dI : Nat → Nat → Nat) (kI kJ kZ : ClassId) (x0 : Nat)  :
    XM stX l yBal_init wBal_init { frames := 1, cells := 1, slots := 24, locals := 12 } (dC, dI) xCl (x_T kI kJ kZ) [(x0, .inr (0, [.null, .int 0]))] [.ref x0] 1 24 x_eV (fun (r : Unit) (u : Nat) => True) (fun (u : Nat) => [(x0, .inr (0, [.ref u, .int 0])), (u, .inl (kI, 24, .inl (fun _ => 0)))]) := by
  refine XM.ofV (cc := cBal_init) (maxL := 1) (by decide) rfl (Nat.le_of_ble_eq_true rfl) ?_
  intro p e s m below meth c A Q hx hb hr hml hown hts hlocks hin hA hK hP hD hX hS ls hl hret
  have hl : lv_has ls 1 [(0, .ref x0)] := hl
  refine lv_aload_n hx hb dBal_init_0 rfl (lv_at hl 0 rfl) ?_
  refine W.objInit hx hb hown (hts (.methodLink RBal 3 objectInit) (List.mem_cons_of_mem _ gw82)) (hts (.instanceMethod objectInit) (List.mem_cons_of_mem _ gw57)) (hts (.code objectInit ⟨#[0xb1]⟩ 1 none) (List.mem_cons_of_mem _ gw58)) rfl (by rw [hml]; exact hl.1) rfl dBal_init_1 (Nat.le_of_ble_eq_true rfl) (Nat.le_of_ble_eq_true rfl) ?_
  refine W.eq (g2 := F0 m 4 ls []) rfl ?_
  refine lv_aload_n hx hb dBal_init_4 rfl (lv_at hl 0 rfl) ?_
  refine lv_bipush (v := 24) hx hb dBal_init_5 (by decide) ?_
  refine x_newaI (N := 24) hx hb (hts (.arrayClass .int) (List.mem_cons_of_mem _ gw75)) hK hP hD hS hA (rfl) (Nat.le_of_ble_eq_true rfl) (Nat.le_of_ble_eq_true rfl) (Nat.le_of_ble_eq_true rfl) dBal_init_7 (fun a_1 H hP hD hS => ?_)
  have hP : va_P (dC, dI) xCl [(x0, .inr (0, [.null, .int 0])), (a_1, .inl (kI, 24, .inl (fun _ => 0)))] H := hP
  have hD : va_D A [(x0, .inr (0, [.null, .int 0])), (a_1, .inl (kI, 24, .inl (fun _ => 0)))] := hD
  refine va_putF (D := (dC, dI)) (ci := 0) (v := .ref a_1) (ty := .array .int) (C := RBal) (T := TBal) (N := 2) hx hb hts (fun w h => List.mem_cons_of_mem _ (layBal w h)) tyBal tykBal nmBal hown hK hP hD hS 0 rfl rfl 0 (by decide) (hts (.fieldLink RBal 9 "CallLedger$Balances" "amounts" "[I") (List.mem_cons_of_mem _ gw83)) (fun _ h9 => h9) rfl hin rfl (by decide +kernel) rfl rfl (Nat.le_of_ble_eq_true rfl) dBal_init_9 (fun H locs hP hD hS => ?_)
  have hP : va_P (dC, dI) xCl [(x0, .inr (0, [.ref a_1, .int 0])), (a_1, .inl (kI, 24, .inl (fun _ => 0)))] H := hP
  have hD : va_D A [(x0, .inr (0, [.ref a_1, .int 0])), (a_1, .inl (kI, 24, .inl (fun _ => 0)))] := hD
  exact hret  (a_1) _ _ _ (trivial) (hP.sub [0, 1] rfl) (hD.sub [0, 1] (by decide) rfl) hS dBal_init_12

set_option maxHeartbeats 4000000 in
set_option maxRecDepth 100000 in
theorem kCod_init (l : Launch) (dC : Nat → ClassId) (dI : Nat → Nat → Nat) (kI kJ kZ : ClassId) (x0 : Nat)  :
    XM stX l yCod_init wCod_init { frames := 1, cells := 3, slots := 3888, locals := 12 } (dC, dI) xCl (x_T kI kJ kZ) [(x0, .inr (1, [.null, .null, .null]))] [.ref x0] 3 3888 x_eV (fun (r : Unit) (u : Nat × Nat × Nat) => True) (fun (u : Nat × Nat × Nat) => [(x0, .inr (1, [.ref u.1, .ref u.2.1, .ref u.2.2])), (u.1, .inl (kI, 3840, .inl (fun _ => 0))), (u.2.1, .inl (kI, 24, .inl (fun _ => 0))), (u.2.2, .inl (kZ, 24, .inl (fun _ => 0)))]) := by
  refine XM.ofV (cc := cCod_init) (maxL := 1) (by decide) rfl (Nat.le_of_ble_eq_true rfl) ?_
  intro p e s m below meth c A Q hx hb hr hml hown hts hlocks hin hA hK hP hD hX hS ls hl hret
  have hl : lv_has ls 1 [(0, .ref x0)] := hl
  refine lv_aload_n hx hb dCod_init_0 rfl (lv_at hl 0 rfl) ?_
  refine W.objInit hx hb hown (hts (.methodLink RCod 3 objectInit) (List.mem_cons_of_mem _ gw64)) (hts (.instanceMethod objectInit) (List.mem_cons_of_mem _ gw57)) (hts (.code objectInit ⟨#[0xb1]⟩ 1 none) (List.mem_cons_of_mem _ gw58)) rfl (by rw [hml]; exact hl.1) rfl dCod_init_1 (Nat.le_of_ble_eq_true rfl) (Nat.le_of_ble_eq_true rfl) ?_
  refine W.eq (g2 := F0 m 4 ls []) rfl ?_
  refine lv_aload_n hx hb dCod_init_4 rfl (lv_at hl 0 rfl) ?_
  refine lv_sipush (v := 3840) hx hb dCod_init_5 (by decide) ?_
  refine x_newaI (N := 3840) hx hb (hts (.arrayClass .int) (List.mem_cons_of_mem _ gw75)) hK hP hD hS hA (rfl) (Nat.le_of_ble_eq_true rfl) (Nat.le_of_ble_eq_true rfl) (Nat.le_of_ble_eq_true rfl) dCod_init_8 (fun a_1 H hP hD hS => ?_)
  have hP : va_P (dC, dI) xCl [(x0, .inr (1, [.null, .null, .null])), (a_1, .inl (kI, 3840, .inl (fun _ => 0)))] H := hP
  have hD : va_D A [(x0, .inr (1, [.null, .null, .null])), (a_1, .inl (kI, 3840, .inl (fun _ => 0)))] := hD
  refine va_putF (D := (dC, dI)) (ci := 1) (v := .ref a_1) (ty := .array .int) (C := RCod) (T := TCod) (N := 3) hx hb hts (fun w h => List.mem_cons_of_mem _ (layCod w h)) tyCod tykCod nmCod hown hK hP hD hS 0 rfl rfl 0 (by decide) (hts (.fieldLink RCod 9 "CallLedger$Codes" "words" "[I") (List.mem_cons_of_mem _ gw65)) (fun _ h9 => h9) rfl hin rfl (by decide +kernel) rfl rfl (Nat.le_of_ble_eq_true rfl) dCod_init_10 (fun H locs hP hD hS => ?_)
  have hP : va_P (dC, dI) xCl [(x0, .inr (1, [.ref a_1, .null, .null])), (a_1, .inl (kI, 3840, .inl (fun _ => 0)))] H := hP
  have hD : va_D A [(x0, .inr (1, [.ref a_1, .null, .null])), (a_1, .inl (kI, 3840, .inl (fun _ => 0)))] := hD
  refine lv_aload_n hx hb dCod_init_13 rfl (lv_at hl 0 rfl) ?_
  refine lv_bipush (v := 24) hx hb dCod_init_14 (by decide) ?_
  refine x_newaI (N := 24) hx hb (hts (.arrayClass .int) (List.mem_cons_of_mem _ gw75)) hK hP hD hS hA (rfl) (Nat.le_of_ble_eq_true rfl) (Nat.le_of_ble_eq_true rfl) (Nat.le_of_ble_eq_true rfl) dCod_init_16 (fun a_2 H hP hD hS => ?_)
  have hP : va_P (dC, dI) xCl [(x0, .inr (1, [.ref a_1, .null, .null])), (a_1, .inl (kI, 3840, .inl (fun _ => 0))), (a_2, .inl (kI, 24, .inl (fun _ => 0)))] H := hP
  have hD : va_D A [(x0, .inr (1, [.ref a_1, .null, .null])), (a_1, .inl (kI, 3840, .inl (fun _ => 0))), (a_2, .inl (kI, 24, .inl (fun _ => 0)))] := hD
  refine va_putF (D := (dC, dI)) (ci := 1) (v := .ref a_2) (ty := .array .int) (C := RCod) (T := TCod) (N := 3) hx hb hts (fun w h => List.mem_cons_of_mem _ (layCod w h)) tyCod tykCod nmCod hown hK hP hD hS 0 rfl rfl 1 (by decide) (hts (.fieldLink RCod 15 "CallLedger$Codes" "lengths" "[I") (List.mem_cons_of_mem _ gw66)) (fun _ h9 => h9) rfl hin rfl (by decide +kernel) rfl rfl (Nat.le_of_ble_eq_true rfl) dCod_init_18 (fun H locs hP hD hS => ?_)
  have hP : va_P (dC, dI) xCl [(x0, .inr (1, [.ref a_1, .ref a_2, .null])), (a_1, .inl (kI, 3840, .inl (fun _ => 0))), (a_2, .inl (kI, 24, .inl (fun _ => 0)))] H := hP
  have hD : va_D A [(x0, .inr (1, [.ref a_1, .ref a_2, .null])), (a_1, .inl (kI, 3840, .inl (fun _ => 0))), (a_2, .inl (kI, 24, .inl (fun _ => 0)))] := hD
  refine lv_aload_n hx hb dCod_init_21 rfl (lv_at hl 0 rfl) ?_
  refine lv_bipush (v := 24) hx hb dCod_init_22 (by decide) ?_
  refine x_newaZ (N := 24) hx hb (hts (.arrayClass .boolean) (List.mem_cons_of_mem _ gw76)) hK hP hD hS hA (rfl) (Nat.le_of_ble_eq_true rfl) (Nat.le_of_ble_eq_true rfl) (Nat.le_of_ble_eq_true rfl) dCod_init_24 (fun a_3 H hP hD hS => ?_)
  have hP : va_P (dC, dI) xCl [(x0, .inr (1, [.ref a_1, .ref a_2, .null])), (a_1, .inl (kI, 3840, .inl (fun _ => 0))), (a_2, .inl (kI, 24, .inl (fun _ => 0))), (a_3, .inl (kZ, 24, .inl (fun _ => 0)))] H := hP
  have hD : va_D A [(x0, .inr (1, [.ref a_1, .ref a_2, .null])), (a_1, .inl (kI, 3840, .inl (fun _ => 0))), (a_2, .inl (kI, 24, .inl (fun _ => 0))), (a_3, .inl (kZ, 24, .inl (fun _ => 0)))] := hD
  refine va_putF (D := (dC, dI)) (ci := 1) (v := .ref a_3) (ty := .array .boolean) (C := RCod) (T := TCod) (N := 3) hx hb hts (fun w h => List.mem_cons_of_mem _ (layCod w h)) tyCod tykCod nmCod hown hK hP hD hS 0 rfl rfl 2 (by decide) (hts (.fieldLink RCod 18 "CallLedger$Codes" "sealedOnes" "[Z") (List.mem_cons_of_mem _ gw67)) (fun _ h9 => h9) rfl hin rfl (by decide +kernel) rfl rfl (Nat.le_of_ble_eq_true rfl) dCod_init_26 (fun H locs hP hD hS => ?_)
  have hP : va_P (dC, dI) xCl [(x0, .inr (1, [.ref a_1, .ref a_2, .ref a_3])), (a_1, .inl (kI, 3840, .inl (fun _ => 0))), (a_2, .inl (kI, 24, .inl (fun _ => 0))), (a_3, .inl (kZ, 24, .inl (fun _ => 0)))] H := hP
  have hD : va_D A [(x0, .inr (1, [.ref a_1, .ref a_2, .ref a_3])), (a_1, .inl (kI, 3840, .inl (fun _ => 0))), (a_2, .inl (kI, 24, .inl (fun _ => 0))), (a_3, .inl (kZ, 24, .inl (fun _ => 0)))] := hD
  exact hret  ((a_1, a_2, a_3)) _ _ _ (trivial) (hP.sub [0, 1, 2, 3] rfl) (hD.sub [0, 1, 2, 3] (by decide) rfl) hS dCod_init_29

set_option maxHeartbeats 4000000 in
set_option maxRecDepth 100000 in
theorem kSto_init (l : Launch) (dC : Nat → ClassId) (dI : Nat → Nat → Nat) (kI kJ kZ : ClassId) (x0 : Nat)  :
    XM stX l ySto_init wSto_init { frames := 1, cells := 4, slots := 2000, locals := 12 } (dC, dI) xCl (x_T kI kJ kZ) [(x0, .inr (4, [.null, .null, .int 0, .null, .null, .int 0]))] [.ref x0] 4 2000 x_eV (fun (r : Unit) (u : Nat × Nat × Nat × Nat) => True) (fun (u : Nat × Nat × Nat × Nat) => [(x0, .inr (4, [.ref u.1, .ref u.2.1, .int 0, .ref u.2.2.1, .ref u.2.2.2, .int 0])), (u.1, .inl (kJ, 500, .inr (.inl (fun _ => 0)))), (u.2.1, .inl (kI, 500, .inl (fun _ => 0))), (u.2.2.1, .inl (kJ, 500, .inr (.inl (fun _ => 0)))), (u.2.2.2, .inl (kI, 500, .inl (fun _ => 0)))]) := by
  refine XM.ofV (cc := cSto_init) (maxL := 1) (by decide) rfl (Nat.le_of_ble_eq_true rfl) ?_
  intro p e s m below meth c A Q hx hb hr hml hown hts hlocks hin hA hK hP hD hX hS ls hl hret
  have hl : lv_has ls 1 [(0, .ref x0)] := hl
  refine lv_aload_n hx hb dSto_init_0 rfl (lv_at hl 0 rfl) ?_
  refine W.objInit hx hb hown (hts (.methodLink RSto 3 objectInit) (List.mem_cons_of_mem _ gw95)) (hts (.instanceMethod objectInit) (List.mem_cons_of_mem _ gw57)) (hts (.code objectInit ⟨#[0xb1]⟩ 1 none) (List.mem_cons_of_mem _ gw58)) rfl (by rw [hml]; exact hl.1) rfl dSto_init_1 (Nat.le_of_ble_eq_true rfl) (Nat.le_of_ble_eq_true rfl) ?_
  refine W.eq (g2 := F0 m 4 ls []) rfl ?_
  refine lv_aload_n hx hb dSto_init_4 rfl (lv_at hl 0 rfl) ?_
  refine lv_sipush (v := 500) hx hb dSto_init_5 (by decide) ?_
  refine x_newaJ (N := 500) hx hb (hts (.arrayClass .long) (List.mem_cons_of_mem _ gw115)) hK hP hD hS hA (rfl) (Nat.le_of_ble_eq_true rfl) (Nat.le_of_ble_eq_true rfl) (Nat.le_of_ble_eq_true rfl) dSto_init_8 (fun a_1 H hP hD hS => ?_)
  have hP : va_P (dC, dI) xCl [(x0, .inr (4, [.null, .null, .int 0, .null, .null, .int 0])), (a_1, .inl (kJ, 500, .inr (.inl (fun _ => 0))))] H := hP
  have hD : va_D A [(x0, .inr (4, [.null, .null, .int 0, .null, .null, .int 0])), (a_1, .inl (kJ, 500, .inr (.inl (fun _ => 0))))] := hD
  refine va_putF (D := (dC, dI)) (ci := 4) (v := .ref a_1) (ty := .array .long) (C := RSto) (T := TSto) (N := 6) hx hb hts (fun w h => List.mem_cons_of_mem _ (laySto w h)) tySto tykSto nmSto hown hK hP hD hS 0 rfl rfl 0 (by decide) (hts (.fieldLink RSto 9 "CallLedger$Store" "slots" "[J") (List.mem_cons_of_mem _ gw96)) (fun _ h9 => h9) rfl hin rfl (by decide +kernel) rfl rfl (Nat.le_of_ble_eq_true rfl) dSto_init_10 (fun H locs hP hD hS => ?_)
  have hP : va_P (dC, dI) xCl [(x0, .inr (4, [.ref a_1, .null, .int 0, .null, .null, .int 0])), (a_1, .inl (kJ, 500, .inr (.inl (fun _ => 0))))] H := hP
  have hD : va_D A [(x0, .inr (4, [.ref a_1, .null, .int 0, .null, .null, .int 0])), (a_1, .inl (kJ, 500, .inr (.inl (fun _ => 0))))] := hD
  refine lv_aload_n hx hb dSto_init_13 rfl (lv_at hl 0 rfl) ?_
  refine lv_sipush (v := 500) hx hb dSto_init_14 (by decide) ?_
  refine x_newaI (N := 500) hx hb (hts (.arrayClass .int) (List.mem_cons_of_mem _ gw75)) hK hP hD hS hA (rfl) (Nat.le_of_ble_eq_true rfl) (Nat.le_of_ble_eq_true rfl) (Nat.le_of_ble_eq_true rfl) dSto_init_17 (fun a_2 H hP hD hS => ?_)
  have hP : va_P (dC, dI) xCl [(x0, .inr (4, [.ref a_1, .null, .int 0, .null, .null, .int 0])), (a_1, .inl (kJ, 500, .inr (.inl (fun _ => 0)))), (a_2, .inl (kI, 500, .inl (fun _ => 0)))] H := hP
  have hD : va_D A [(x0, .inr (4, [.ref a_1, .null, .int 0, .null, .null, .int 0])), (a_1, .inl (kJ, 500, .inr (.inl (fun _ => 0)))), (a_2, .inl (kI, 500, .inl (fun _ => 0)))] := hD
  refine va_putF (D := (dC, dI)) (ci := 4) (v := .ref a_2) (ty := .array .int) (C := RSto) (T := TSto) (N := 6) hx hb hts (fun w h => List.mem_cons_of_mem _ (laySto w h)) tySto tykSto nmSto hown hK hP hD hS 0 rfl rfl 1 (by decide) (hts (.fieldLink RSto 15 "CallLedger$Store" "numbers" "[I") (List.mem_cons_of_mem _ gw97)) (fun _ h9 => h9) rfl hin rfl (by decide +kernel) rfl rfl (Nat.le_of_ble_eq_true rfl) dSto_init_19 (fun H locs hP hD hS => ?_)
  have hP : va_P (dC, dI) xCl [(x0, .inr (4, [.ref a_1, .ref a_2, .int 0, .null, .null, .int 0])), (a_1, .inl (kJ, 500, .inr (.inl (fun _ => 0)))), (a_2, .inl (kI, 500, .inl (fun _ => 0)))] H := hP
  have hD : va_D A [(x0, .inr (4, [.ref a_1, .ref a_2, .int 0, .null, .null, .int 0])), (a_1, .inl (kJ, 500, .inr (.inl (fun _ => 0)))), (a_2, .inl (kI, 500, .inl (fun _ => 0)))] := hD
  refine lv_aload_n hx hb dSto_init_22 rfl (lv_at hl 0 rfl) ?_
  refine lv_sipush (v := 500) hx hb dSto_init_23 (by decide) ?_
  refine x_newaJ (N := 500) hx hb (hts (.arrayClass .long) (List.mem_cons_of_mem _ gw115)) hK hP hD hS hA (rfl) (Nat.le_of_ble_eq_true rfl) (Nat.le_of_ble_eq_true rfl) (Nat.le_of_ble_eq_true rfl) dSto_init_26 (fun a_3 H hP hD hS => ?_)
  have hP : va_P (dC, dI) xCl [(x0, .inr (4, [.ref a_1, .ref a_2, .int 0, .null, .null, .int 0])), (a_1, .inl (kJ, 500, .inr (.inl (fun _ => 0)))), (a_2, .inl (kI, 500, .inl (fun _ => 0))), (a_3, .inl (kJ, 500, .inr (.inl (fun _ => 0))))] H := hP
  have hD : va_D A [(x0, .inr (4, [.ref a_1, .ref a_2, .int 0, .null, .null, .int 0])), (a_1, .inl (kJ, 500, .inr (.inl (fun _ => 0)))), (a_2, .inl (kI, 500, .inl (fun _ => 0))), (a_3, .inl (kJ, 500, .inr (.inl (fun _ => 0))))] := hD
  refine va_putF (D := (dC, dI)) (ci := 4) (v := .ref a_3) (ty := .array .long) (C := RSto) (T := TSto) (N := 6) hx hb hts (fun w h => List.mem_cons_of_mem _ (laySto w h)) tySto tykSto nmSto hown hK hP hD hS 0 rfl rfl 3 (by decide) (hts (.fieldLink RSto 19 "CallLedger$Store" "changedSlots" "[J") (List.mem_cons_of_mem _ gw99)) (fun _ h9 => h9) rfl hin rfl (by decide +kernel) rfl rfl (Nat.le_of_ble_eq_true rfl) dSto_init_28 (fun H locs hP hD hS => ?_)
  have hP : va_P (dC, dI) xCl [(x0, .inr (4, [.ref a_1, .ref a_2, .int 0, .ref a_3, .null, .int 0])), (a_1, .inl (kJ, 500, .inr (.inl (fun _ => 0)))), (a_2, .inl (kI, 500, .inl (fun _ => 0))), (a_3, .inl (kJ, 500, .inr (.inl (fun _ => 0))))] H := hP
  have hD : va_D A [(x0, .inr (4, [.ref a_1, .ref a_2, .int 0, .ref a_3, .null, .int 0])), (a_1, .inl (kJ, 500, .inr (.inl (fun _ => 0)))), (a_2, .inl (kI, 500, .inl (fun _ => 0))), (a_3, .inl (kJ, 500, .inr (.inl (fun _ => 0))))] := hD
  refine lv_aload_n hx hb dSto_init_31 rfl (lv_at hl 0 rfl) ?_
  refine lv_sipush (v := 500) hx hb dSto_init_32 (by decide) ?_
  refine x_newaI (N := 500) hx hb (hts (.arrayClass .int) (List.mem_cons_of_mem _ gw75)) hK hP hD hS hA (rfl) (Nat.le_of_ble_eq_true rfl) (Nat.le_of_ble_eq_true rfl) (Nat.le_of_ble_eq_true rfl) dSto_init_35 (fun a_4 H hP hD hS => ?_)
  have hP : va_P (dC, dI) xCl [(x0, .inr (4, [.ref a_1, .ref a_2, .int 0, .ref a_3, .null, .int 0])), (a_1, .inl (kJ, 500, .inr (.inl (fun _ => 0)))), (a_2, .inl (kI, 500, .inl (fun _ => 0))), (a_3, .inl (kJ, 500, .inr (.inl (fun _ => 0)))), (a_4, .inl (kI, 500, .inl (fun _ => 0)))] H := hP
  have hD : va_D A [(x0, .inr (4, [.ref a_1, .ref a_2, .int 0, .ref a_3, .null, .int 0])), (a_1, .inl (kJ, 500, .inr (.inl (fun _ => 0)))), (a_2, .inl (kI, 500, .inl (fun _ => 0))), (a_3, .inl (kJ, 500, .inr (.inl (fun _ => 0)))), (a_4, .inl (kI, 500, .inl (fun _ => 0)))] := hD
  refine va_putF (D := (dC, dI)) (ci := 4) (v := .ref a_4) (ty := .array .int) (C := RSto) (T := TSto) (N := 6) hx hb hts (fun w h => List.mem_cons_of_mem _ (laySto w h)) tySto tykSto nmSto hown hK hP hD hS 0 rfl rfl 4 (by decide) (hts (.fieldLink RSto 22 "CallLedger$Store" "numbersBefore" "[I") (List.mem_cons_of_mem _ gw100)) (fun _ h9 => h9) rfl hin rfl (by decide +kernel) rfl rfl (Nat.le_of_ble_eq_true rfl) dSto_init_37 (fun H locs hP hD hS => ?_)
  have hP : va_P (dC, dI) xCl [(x0, .inr (4, [.ref a_1, .ref a_2, .int 0, .ref a_3, .ref a_4, .int 0])), (a_1, .inl (kJ, 500, .inr (.inl (fun _ => 0)))), (a_2, .inl (kI, 500, .inl (fun _ => 0))), (a_3, .inl (kJ, 500, .inr (.inl (fun _ => 0)))), (a_4, .inl (kI, 500, .inl (fun _ => 0)))] H := hP
  have hD : va_D A [(x0, .inr (4, [.ref a_1, .ref a_2, .int 0, .ref a_3, .ref a_4, .int 0])), (a_1, .inl (kJ, 500, .inr (.inl (fun _ => 0)))), (a_2, .inl (kI, 500, .inl (fun _ => 0))), (a_3, .inl (kJ, 500, .inr (.inl (fun _ => 0)))), (a_4, .inl (kI, 500, .inl (fun _ => 0)))] := hD
  exact hret  ((a_1, a_2, a_3, a_4)) _ _ _ (trivial) (hP.sub [0, 1, 2, 3, 4] rfl) (hD.sub [0, 1, 2, 3, 4] (by decide) rfl) hS dSto_init_40

set_option maxHeartbeats 4000000 in
set_option maxRecDepth 100000 in
theorem kRun_initN (l : Launch) (dC : Nat → ClassId) (dI : Nat → Nat → Nat) (kI kJ kZ : ClassId) (x0 : Nat) (qc : Nat) (qb : Nat) (qs : Nat) (qk : Nat)  :
    XM stX l yRun_init wRun_init { frames := 2, cells := 5, slots := 68, locals := 42 } (dC, dI) xCl (x_T kI kJ kZ) [(x0, .inr (3, [.null, .null, .null, .null, .null, .null, .null, .null, .int 0, .int 0, .int 0, .int 0, .int 0, .int 0, .int 0, .int 0, .int 0]))] [.ref x0, .ref qc, .ref qb, .ref qs, .ref qk, .null] 5 68 x_eV (fun (r : Unit) (u : Nat × Nat × Nat × Nat × Nat) => True) (fun (u : Nat × Nat × Nat × Nat × Nat) => [(x0, .inr (3, [.ref qc, .ref qb, .ref qs, .ref qk, .null, .ref u.1, .ref u.2.2.1, .ref u.2.2.2.2, .int 0, .int 0, .int 0, .int 0, .int 0, .int 0, .int 0, .int 0, .int 0])), (u.1, .inr (2, [.ref u.2.1, .int 0])), (u.2.1, .inl (kI, 32, .inl (fun _ => 0))), (u.2.2.1, .inr (2, [.ref u.2.2.2.1, .int 0])), (u.2.2.2.1, .inl (kI, 8, .inl (fun _ => 0))), (u.2.2.2.2, .inl (kI, 24, .inl (fun _ => 0)))]) := by
  refine XM.ofV (cc := cRun_init) (maxL := 6) (by decide) rfl (Nat.le_of_ble_eq_true rfl) ?_
  intro p e s m below meth c A Q hx hb hr hml hown hts hlocks hin hA hK hP hD hX hS ls hl hret
  have hl : lv_has ls 6 [(0, .ref x0), (1, .ref qc), (2, .ref qb), (3, .ref qs), (4, .ref qk), (5, .null)] := hl
  refine lv_aload_n hx hb dRun_init_0 rfl (lv_at hl 0 rfl) ?_
  refine W.objInit hx hb hown (hts (.methodLink RRun 3 objectInit) (List.mem_cons_of_mem _ gw137)) (hts (.instanceMethod objectInit) (List.mem_cons_of_mem _ gw57)) (hts (.code objectInit ⟨#[0xb1]⟩ 1 none) (List.mem_cons_of_mem _ gw58)) rfl (by rw [hml]; exact hl.1) rfl dRun_init_1 (Nat.le_of_ble_eq_true rfl) (Nat.le_of_ble_eq_true rfl) ?_
  refine W.eq (g2 := F0 m 4 ls []) rfl ?_
  refine lv_aload_n hx hb dRun_init_4 rfl (lv_at hl 0 rfl) ?_
  refine va_new (D := (dC, dI)) (ci := 2) (C := RRow) (T := TRow) (N := 2) (fs := [.null, .int 0]) hx hb hts (fun w h => List.mem_cons_of_mem _ (layRow w h)) tyRow tykRow hown (hts (.classLink RRun 9 RRow) (List.mem_cons_of_mem _ gw138)) (hts (.instantiable RRow 2) (List.mem_cons_of_mem _ gw117)) (hts (.initialized RRow) (List.mem_cons_of_mem _ gw40)) hK hP hD hS hA rfl (by decide +kernel) (Nat.le_of_ble_eq_true rfl) (Nat.le_of_ble_eq_true rfl) dRun_init_5 (fun a_1 H hP hD hS => ?_)
  have hP : va_P (dC, dI) xCl [(x0, .inr (3, [.null, .null, .null, .null, .null, .null, .null, .null, .int 0, .int 0, .int 0, .int 0, .int 0, .int 0, .int 0, .int 0, .int 0])), (a_1, .inr (2, [.null, .int 0]))] H := hP
  have hD : va_D A [(x0, .inr (3, [.null, .null, .null, .null, .null, .null, .null, .null, .int 0, .int 0, .int 0, .int 0, .int 0, .int 0, .int 0, .int 0, .int 0])), (a_1, .inr (2, [.null, .int 0]))] := hD
  refine lv_dup hx hb dRun_init_8 rfl ?_
  refine lv_bipush (v := 32) hx hb dRun_init_9 (by decide) ?_
  refine XM.callIv (As := [.int 32]) (rest := [.ref a_1, .ref x0]) (wr := [(x0, .inr (3, [.null, .null, .null, .null, .null, .null, .null, .null, .int 0, .int 0, .int 0, .int 0, .int 0, .int 0, .int 0, .int 0, .int 0]))]) stX_ok ⟨hx, hb, hml, hown, hts⟩ (kRow_init32 l dC dI kI kJ kZ a_1 ) (cwI 1 hts (x_gI gw120) rfl rfl rfl (hts (.initialized RRow) (List.mem_cons_of_mem _ gw40)) (hts (.methodLink RRun 11 yRow_init) (List.mem_cons_of_mem _ gw139)) (hts (.instanceMethod yRow_init) (List.mem_cons_of_mem _ gw119)) rfl (by decide +kernel) ⟨Nat.le_of_ble_eq_true rfl, Nat.le_of_ble_eq_true rfl⟩) hK hP hD hS hA hX [1] [0] rfl rfl (by decide) (by decide) (by decide) rfl rfl hl.1 (Nat.le_of_ble_eq_true rfl) dRun_init_11 ⟨Nat.le_of_ble_eq_true rfl, Nat.le_of_ble_eq_true rfl⟩ (fun u_2 H locs hw hP hD hS => ?_)
  obtain ⟨x1_4, e9⟩ : ∃ z, z = u_2 := ⟨_, rfl⟩; subst e9
  have hP : va_P (dC, dI) xCl [(x0, .inr (3, [.null, .null, .null, .null, .null, .null, .null, .null, .int 0, .int 0, .int 0, .int 0, .int 0, .int 0, .int 0, .int 0, .int 0])), (a_1, .inr (2, [.ref x1_4, .int 0])), (x1_4, .inl (kI, 32, .inl (fun _ => 0)))] H := hP
  have hD : va_D A [(x0, .inr (3, [.null, .null, .null, .null, .null, .null, .null, .null, .int 0, .int 0, .int 0, .int 0, .int 0, .int 0, .int 0, .int 0, .int 0])), (a_1, .inr (2, [.ref x1_4, .int 0])), (x1_4, .inl (kI, 32, .inl (fun _ => 0)))] := hD
  refine va_putF (D := (dC, dI)) (ci := 3) (v := .ref a_1) (ty := .object "CallLedger$Row") (C := RRun) (T := TRun) (N := 17) hx hb hts (fun w h => List.mem_cons_of_mem _ (layRun w h)) tyRun tykRun nmRun hown hK hP hD hS 0 rfl rfl 5 (by decide) (hts (.fieldLink RRun 14 "CallLedger$Run" "stack" "LCallLedger$Row;") (List.mem_cons_of_mem _ gw145)) (fun _ h9 => h9) rfl hin rfl (by decide +kernel) rfl rfl (Nat.le_of_ble_eq_true rfl) dRun_init_14 (fun H locs hP hD hS => ?_)
  have hP : va_P (dC, dI) xCl [(x0, .inr (3, [.null, .null, .null, .null, .null, .ref a_1, .null, .null, .int 0, .int 0, .int 0, .int 0, .int 0, .int 0, .int 0, .int 0, .int 0])), (a_1, .inr (2, [.ref x1_4, .int 0])), (x1_4, .inl (kI, 32, .inl (fun _ => 0)))] H := hP
  have hD : va_D A [(x0, .inr (3, [.null, .null, .null, .null, .null, .ref a_1, .null, .null, .int 0, .int 0, .int 0, .int 0, .int 0, .int 0, .int 0, .int 0, .int 0])), (a_1, .inr (2, [.ref x1_4, .int 0])), (x1_4, .inl (kI, 32, .inl (fun _ => 0)))] := hD
  refine lv_aload_n hx hb dRun_init_17 rfl (lv_at hl 0 rfl) ?_
  refine va_new (D := (dC, dI)) (ci := 2) (C := RRow) (T := TRow) (N := 2) (fs := [.null, .int 0]) hx hb hts (fun w h => List.mem_cons_of_mem _ (layRow w h)) tyRow tykRow hown (hts (.classLink RRun 9 RRow) (List.mem_cons_of_mem _ gw138)) (hts (.instantiable RRow 2) (List.mem_cons_of_mem _ gw117)) (hts (.initialized RRow) (List.mem_cons_of_mem _ gw40)) hK hP hD hS hA rfl (by decide +kernel) (Nat.le_of_ble_eq_true rfl) (Nat.le_of_ble_eq_true rfl) dRun_init_18 (fun a_5 H hP hD hS => ?_)
  have hP : va_P (dC, dI) xCl [(x0, .inr (3, [.null, .null, .null, .null, .null, .ref a_1, .null, .null, .int 0, .int 0, .int 0, .int 0, .int 0, .int 0, .int 0, .int 0, .int 0])), (a_1, .inr (2, [.ref x1_4, .int 0])), (x1_4, .inl (kI, 32, .inl (fun _ => 0))), (a_5, .inr (2, [.null, .int 0]))] H := hP
  have hD : va_D A [(x0, .inr (3, [.null, .null, .null, .null, .null, .ref a_1, .null, .null, .int 0, .int 0, .int 0, .int 0, .int 0, .int 0, .int 0, .int 0, .int 0])), (a_1, .inr (2, [.ref x1_4, .int 0])), (x1_4, .inl (kI, 32, .inl (fun _ => 0))), (a_5, .inr (2, [.null, .int 0]))] := hD
  refine lv_dup hx hb dRun_init_21 rfl ?_
  refine lv_bipush (v := 8) hx hb dRun_init_22 (by decide) ?_
  refine XM.callIv (As := [.int 8]) (rest := [.ref a_5, .ref x0]) (wr := [(x0, .inr (3, [.null, .null, .null, .null, .null, .ref a_1, .null, .null, .int 0, .int 0, .int 0, .int 0, .int 0, .int 0, .int 0, .int 0, .int 0])), (a_1, .inr (2, [.ref x1_4, .int 0])), (x1_4, .inl (kI, 32, .inl (fun _ => 0)))]) stX_ok ⟨hx, hb, hml, hown, hts⟩ (kRow_init8 l dC dI kI kJ kZ a_5 ) (cwI 1 hts (x_gI gw120) rfl rfl rfl (hts (.initialized RRow) (List.mem_cons_of_mem _ gw40)) (hts (.methodLink RRun 11 yRow_init) (List.mem_cons_of_mem _ gw139)) (hts (.instanceMethod yRow_init) (List.mem_cons_of_mem _ gw119)) rfl (by decide +kernel) ⟨Nat.le_of_ble_eq_true rfl, Nat.le_of_ble_eq_true rfl⟩) hK hP hD hS hA hX [3] [0, 1, 2] rfl rfl (by decide) (by decide) (by decide) rfl rfl hl.1 (Nat.le_of_ble_eq_true rfl) dRun_init_24 ⟨Nat.le_of_ble_eq_true rfl, Nat.le_of_ble_eq_true rfl⟩ (fun u_6 H locs hw hP hD hS => ?_)
  obtain ⟨x1_8, e9⟩ : ∃ z, z = u_6 := ⟨_, rfl⟩; subst e9
  have hP : va_P (dC, dI) xCl [(x0, .inr (3, [.null, .null, .null, .null, .null, .ref a_1, .null, .null, .int 0, .int 0, .int 0, .int 0, .int 0, .int 0, .int 0, .int 0, .int 0])), (a_1, .inr (2, [.ref x1_4, .int 0])), (x1_4, .inl (kI, 32, .inl (fun _ => 0))), (a_5, .inr (2, [.ref x1_8, .int 0])), (x1_8, .inl (kI, 8, .inl (fun _ => 0)))] H := hP
  have hD : va_D A [(x0, .inr (3, [.null, .null, .null, .null, .null, .ref a_1, .null, .null, .int 0, .int 0, .int 0, .int 0, .int 0, .int 0, .int 0, .int 0, .int 0])), (a_1, .inr (2, [.ref x1_4, .int 0])), (x1_4, .inl (kI, 32, .inl (fun _ => 0))), (a_5, .inr (2, [.ref x1_8, .int 0])), (x1_8, .inl (kI, 8, .inl (fun _ => 0)))] := hD
  refine va_putF (D := (dC, dI)) (ci := 3) (v := .ref a_5) (ty := .object "CallLedger$Row") (C := RRun) (T := TRun) (N := 17) hx hb hts (fun w h => List.mem_cons_of_mem _ (layRun w h)) tyRun tykRun nmRun hown hK hP hD hS 0 rfl rfl 6 (by decide) (hts (.fieldLink RRun 20 "CallLedger$Run" "arguments" "LCallLedger$Row;") (List.mem_cons_of_mem _ gw146)) (fun _ h9 => h9) rfl hin rfl (by decide +kernel) rfl rfl (Nat.le_of_ble_eq_true rfl) dRun_init_27 (fun H locs hP hD hS => ?_)
  have hP : va_P (dC, dI) xCl [(x0, .inr (3, [.null, .null, .null, .null, .null, .ref a_1, .ref a_5, .null, .int 0, .int 0, .int 0, .int 0, .int 0, .int 0, .int 0, .int 0, .int 0])), (a_1, .inr (2, [.ref x1_4, .int 0])), (x1_4, .inl (kI, 32, .inl (fun _ => 0))), (a_5, .inr (2, [.ref x1_8, .int 0])), (x1_8, .inl (kI, 8, .inl (fun _ => 0)))] H := hP
  have hD : va_D A [(x0, .inr (3, [.null, .null, .null, .null, .null, .ref a_1, .ref a_5, .null, .int 0, .int 0, .int 0, .int 0, .int 0, .int 0, .int 0, .int 0, .int 0])), (a_1, .inr (2, [.ref x1_4, .int 0])), (x1_4, .inl (kI, 32, .inl (fun _ => 0))), (a_5, .inr (2, [.ref x1_8, .int 0])), (x1_8, .inl (kI, 8, .inl (fun _ => 0)))] := hD
  refine lv_aload_n hx hb dRun_init_30 rfl (lv_at hl 0 rfl) ?_
  refine lv_bipush (v := 24) hx hb dRun_init_31 (by decide) ?_
  refine x_newaI (N := 24) hx hb (hts (.arrayClass .int) (List.mem_cons_of_mem _ gw75)) hK hP hD hS hA (rfl) (Nat.le_of_ble_eq_true rfl) (Nat.le_of_ble_eq_true rfl) (Nat.le_of_ble_eq_true rfl) dRun_init_33 (fun a_9 H hP hD hS => ?_)
  have hP : va_P (dC, dI) xCl [(x0, .inr (3, [.null, .null, .null, .null, .null, .ref a_1, .ref a_5, .null, .int 0, .int 0, .int 0, .int 0, .int 0, .int 0, .int 0, .int 0, .int 0])), (a_1, .inr (2, [.ref x1_4, .int 0])), (x1_4, .inl (kI, 32, .inl (fun _ => 0))), (a_5, .inr (2, [.ref x1_8, .int 0])), (x1_8, .inl (kI, 8, .inl (fun _ => 0))), (a_9, .inl (kI, 24, .inl (fun _ => 0)))] H := hP
  have hD : va_D A [(x0, .inr (3, [.null, .null, .null, .null, .null, .ref a_1, .ref a_5, .null, .int 0, .int 0, .int 0, .int 0, .int 0, .int 0, .int 0, .int 0, .int 0])), (a_1, .inr (2, [.ref x1_4, .int 0])), (x1_4, .inl (kI, 32, .inl (fun _ => 0))), (a_5, .inr (2, [.ref x1_8, .int 0])), (x1_8, .inl (kI, 8, .inl (fun _ => 0))), (a_9, .inl (kI, 24, .inl (fun _ => 0)))] := hD
  refine va_putF (D := (dC, dI)) (ci := 3) (v := .ref a_9) (ty := .array .int) (C := RRun) (T := TRun) (N := 17) hx hb hts (fun w h => List.mem_cons_of_mem _ (layRun w h)) tyRun tykRun nmRun hown hK hP hD hS 0 rfl rfl 7 (by decide) (hts (.fieldLink RRun 23 "CallLedger$Run" "balancesBefore" "[I") (List.mem_cons_of_mem _ gw148)) (fun _ h9 => h9) rfl hin rfl (by decide +kernel) rfl rfl (Nat.le_of_ble_eq_true rfl) dRun_init_35 (fun H locs hP hD hS => ?_)
  have hP : va_P (dC, dI) xCl [(x0, .inr (3, [.null, .null, .null, .null, .null, .ref a_1, .ref a_5, .ref a_9, .int 0, .int 0, .int 0, .int 0, .int 0, .int 0, .int 0, .int 0, .int 0])), (a_1, .inr (2, [.ref x1_4, .int 0])), (x1_4, .inl (kI, 32, .inl (fun _ => 0))), (a_5, .inr (2, [.ref x1_8, .int 0])), (x1_8, .inl (kI, 8, .inl (fun _ => 0))), (a_9, .inl (kI, 24, .inl (fun _ => 0)))] H := hP
  have hD : va_D A [(x0, .inr (3, [.null, .null, .null, .null, .null, .ref a_1, .ref a_5, .ref a_9, .int 0, .int 0, .int 0, .int 0, .int 0, .int 0, .int 0, .int 0, .int 0])), (a_1, .inr (2, [.ref x1_4, .int 0])), (x1_4, .inl (kI, 32, .inl (fun _ => 0))), (a_5, .inr (2, [.ref x1_8, .int 0])), (x1_8, .inl (kI, 8, .inl (fun _ => 0))), (a_9, .inl (kI, 24, .inl (fun _ => 0)))] := hD
  refine lv_aload_n hx hb dRun_init_38 rfl (lv_at hl 0 rfl) ?_
  refine lv_aload_n hx hb dRun_init_39 rfl (lv_at hl 1 rfl) ?_
  refine va_putF (D := (dC, dI)) (ci := 3) (v := .ref qc) (ty := .object "CallLedger$Codes") (C := RRun) (T := TRun) (N := 17) hx hb hts (fun w h => List.mem_cons_of_mem _ (layRun w h)) tyRun tykRun nmRun hown hK hP hD hS 0 rfl rfl 0 (by decide) (hts (.fieldLink RRun 27 "CallLedger$Run" "codes" "LCallLedger$Codes;") (List.mem_cons_of_mem _ gw140)) (fun _ h9 => h9) rfl hin rfl (by decide +kernel) rfl rfl (Nat.le_of_ble_eq_true rfl) dRun_init_40 (fun H locs hP hD hS => ?_)
  have hP : va_P (dC, dI) xCl [(x0, .inr (3, [.ref qc, .null, .null, .null, .null, .ref a_1, .ref a_5, .ref a_9, .int 0, .int 0, .int 0, .int 0, .int 0, .int 0, .int 0, .int 0, .int 0])), (a_1, .inr (2, [.ref x1_4, .int 0])), (x1_4, .inl (kI, 32, .inl (fun _ => 0))), (a_5, .inr (2, [.ref x1_8, .int 0])), (x1_8, .inl (kI, 8, .inl (fun _ => 0))), (a_9, .inl (kI, 24, .inl (fun _ => 0)))] H := hP
  have hD : va_D A [(x0, .inr (3, [.ref qc, .null, .null, .null, .null, .ref a_1, .ref a_5, .ref a_9, .int 0, .int 0, .int 0, .int 0, .int 0, .int 0, .int 0, .int 0, .int 0])), (a_1, .inr (2, [.ref x1_4, .int 0])), (x1_4, .inl (kI, 32, .inl (fun _ => 0))), (a_5, .inr (2, [.ref x1_8, .int 0])), (x1_8, .inl (kI, 8, .inl (fun _ => 0))), (a_9, .inl (kI, 24, .inl (fun _ => 0)))] := hD
  refine lv_aload_n hx hb dRun_init_43 rfl (lv_at hl 0 rfl) ?_
  refine lv_aload_n hx hb dRun_init_44 rfl (lv_at hl 2 rfl) ?_
  refine va_putF (D := (dC, dI)) (ci := 3) (v := .ref qb) (ty := .object "CallLedger$Balances") (C := RRun) (T := TRun) (N := 17) hx hb hts (fun w h => List.mem_cons_of_mem _ (layRun w h)) tyRun tykRun nmRun hown hK hP hD hS 0 rfl rfl 1 (by decide) (hts (.fieldLink RRun 31 "CallLedger$Run" "balances" "LCallLedger$Balances;") (List.mem_cons_of_mem _ gw141)) (fun _ h9 => h9) rfl hin rfl (by decide +kernel) rfl rfl (Nat.le_of_ble_eq_true rfl) dRun_init_45 (fun H locs hP hD hS => ?_)
  have hP : va_P (dC, dI) xCl [(x0, .inr (3, [.ref qc, .ref qb, .null, .null, .null, .ref a_1, .ref a_5, .ref a_9, .int 0, .int 0, .int 0, .int 0, .int 0, .int 0, .int 0, .int 0, .int 0])), (a_1, .inr (2, [.ref x1_4, .int 0])), (x1_4, .inl (kI, 32, .inl (fun _ => 0))), (a_5, .inr (2, [.ref x1_8, .int 0])), (x1_8, .inl (kI, 8, .inl (fun _ => 0))), (a_9, .inl (kI, 24, .inl (fun _ => 0)))] H := hP
  have hD : va_D A [(x0, .inr (3, [.ref qc, .ref qb, .null, .null, .null, .ref a_1, .ref a_5, .ref a_9, .int 0, .int 0, .int 0, .int 0, .int 0, .int 0, .int 0, .int 0, .int 0])), (a_1, .inr (2, [.ref x1_4, .int 0])), (x1_4, .inl (kI, 32, .inl (fun _ => 0))), (a_5, .inr (2, [.ref x1_8, .int 0])), (x1_8, .inl (kI, 8, .inl (fun _ => 0))), (a_9, .inl (kI, 24, .inl (fun _ => 0)))] := hD
  refine lv_aload_n hx hb dRun_init_48 rfl (lv_at hl 0 rfl) ?_
  refine lv_aload_n hx hb dRun_init_49 rfl (lv_at hl 3 rfl) ?_
  refine va_putF (D := (dC, dI)) (ci := 3) (v := .ref qs) (ty := .object "CallLedger$Store") (C := RRun) (T := TRun) (N := 17) hx hb hts (fun w h => List.mem_cons_of_mem _ (layRun w h)) tyRun tykRun nmRun hown hK hP hD hS 0 rfl rfl 2 (by decide) (hts (.fieldLink RRun 35 "CallLedger$Run" "store" "LCallLedger$Store;") (List.mem_cons_of_mem _ gw142)) (fun _ h9 => h9) rfl hin rfl (by decide +kernel) rfl rfl (Nat.le_of_ble_eq_true rfl) dRun_init_50 (fun H locs hP hD hS => ?_)
  have hP : va_P (dC, dI) xCl [(x0, .inr (3, [.ref qc, .ref qb, .ref qs, .null, .null, .ref a_1, .ref a_5, .ref a_9, .int 0, .int 0, .int 0, .int 0, .int 0, .int 0, .int 0, .int 0, .int 0])), (a_1, .inr (2, [.ref x1_4, .int 0])), (x1_4, .inl (kI, 32, .inl (fun _ => 0))), (a_5, .inr (2, [.ref x1_8, .int 0])), (x1_8, .inl (kI, 8, .inl (fun _ => 0))), (a_9, .inl (kI, 24, .inl (fun _ => 0)))] H := hP
  have hD : va_D A [(x0, .inr (3, [.ref qc, .ref qb, .ref qs, .null, .null, .ref a_1, .ref a_5, .ref a_9, .int 0, .int 0, .int 0, .int 0, .int 0, .int 0, .int 0, .int 0, .int 0])), (a_1, .inr (2, [.ref x1_4, .int 0])), (x1_4, .inl (kI, 32, .inl (fun _ => 0))), (a_5, .inr (2, [.ref x1_8, .int 0])), (x1_8, .inl (kI, 8, .inl (fun _ => 0))), (a_9, .inl (kI, 24, .inl (fun _ => 0)))] := hD
  refine lv_aload_n hx hb dRun_init_53 rfl (lv_at hl 0 rfl) ?_
  refine lv_aload hx hb dRun_init_54 (lv_at hl 4 rfl) ?_
  refine va_putF (D := (dC, dI)) (ci := 3) (v := .ref qk) (ty := .object "CallLedger$Row") (C := RRun) (T := TRun) (N := 17) hx hb hts (fun w h => List.mem_cons_of_mem _ (layRun w h)) tyRun tykRun nmRun hown hK hP hD hS 0 rfl rfl 3 (by decide) (hts (.fieldLink RRun 39 "CallLedger$Run" "kept" "LCallLedger$Row;") (List.mem_cons_of_mem _ gw143)) (fun _ h9 => h9) rfl hin rfl (by decide +kernel) rfl rfl (Nat.le_of_ble_eq_true rfl) dRun_init_56 (fun H locs hP hD hS => ?_)
  have hP : va_P (dC, dI) xCl [(x0, .inr (3, [.ref qc, .ref qb, .ref qs, .ref qk, .null, .ref a_1, .ref a_5, .ref a_9, .int 0, .int 0, .int 0, .int 0, .int 0, .int 0, .int 0, .int 0, .int 0])), (a_1, .inr (2, [.ref x1_4, .int 0])), (x1_4, .inl (kI, 32, .inl (fun _ => 0))), (a_5, .inr (2, [.ref x1_8, .int 0])), (x1_8, .inl (kI, 8, .inl (fun _ => 0))), (a_9, .inl (kI, 24, .inl (fun _ => 0)))] H := hP
  have hD : va_D A [(x0, .inr (3, [.ref qc, .ref qb, .ref qs, .ref qk, .null, .ref a_1, .ref a_5, .ref a_9, .int 0, .int 0, .int 0, .int 0, .int 0, .int 0, .int 0, .int 0, .int 0])), (a_1, .inr (2, [.ref x1_4, .int 0])), (x1_4, .inl (kI, 32, .inl (fun _ => 0))), (a_5, .inr (2, [.ref x1_8, .int 0])), (x1_8, .inl (kI, 8, .inl (fun _ => 0))), (a_9, .inl (kI, 24, .inl (fun _ => 0)))] := hD
  refine lv_aload_n hx hb dRun_init_59 rfl (lv_at hl 0 rfl) ?_
  refine lv_aloadN hx hb dRun_init_60 (lv_at hl 5 rfl) ?_
  refine va_putF (D := (dC, dI)) (ci := 3) (v := .null) (ty := .object "CallLedger$Run") (C := RRun) (T := TRun) (N := 17) hx hb hts (fun w h => List.mem_cons_of_mem _ (layRun w h)) tyRun tykRun nmRun hown hK hP hD hS 0 rfl rfl 4 (by decide) (hts (.fieldLink RRun 42 "CallLedger$Run" "inner" "LCallLedger$Run;") (List.mem_cons_of_mem _ gw144)) (fun _ h9 => h9) rfl hin rfl (by decide +kernel) rfl rfl (Nat.le_of_ble_eq_true rfl) dRun_init_62 (fun H locs hP hD hS => ?_)
  have hP : va_P (dC, dI) xCl [(x0, .inr (3, [.ref qc, .ref qb, .ref qs, .ref qk, .null, .ref a_1, .ref a_5, .ref a_9, .int 0, .int 0, .int 0, .int 0, .int 0, .int 0, .int 0, .int 0, .int 0])), (a_1, .inr (2, [.ref x1_4, .int 0])), (x1_4, .inl (kI, 32, .inl (fun _ => 0))), (a_5, .inr (2, [.ref x1_8, .int 0])), (x1_8, .inl (kI, 8, .inl (fun _ => 0))), (a_9, .inl (kI, 24, .inl (fun _ => 0)))] H := hP
  have hD : va_D A [(x0, .inr (3, [.ref qc, .ref qb, .ref qs, .ref qk, .null, .ref a_1, .ref a_5, .ref a_9, .int 0, .int 0, .int 0, .int 0, .int 0, .int 0, .int 0, .int 0, .int 0])), (a_1, .inr (2, [.ref x1_4, .int 0])), (x1_4, .inl (kI, 32, .inl (fun _ => 0))), (a_5, .inr (2, [.ref x1_8, .int 0])), (x1_8, .inl (kI, 8, .inl (fun _ => 0))), (a_9, .inl (kI, 24, .inl (fun _ => 0)))] := hD
  exact hret  ((a_1, x1_4, a_5, x1_8, a_9)) _ _ _ (trivial) (hP.sub [0, 1, 2, 3, 4, 5] rfl) (hD.sub [0, 1, 2, 3, 4, 5] (by decide) rfl) hS dRun_init_65

set_option maxHeartbeats 4000000 in
set_option maxRecDepth 100000 in
theorem kRun_initR (l : Launch) (dC : Nat → ClassId) (dI : Nat → Nat → Nat) (kI kJ kZ : ClassId) (x0 : Nat) (qc : Nat) (qb : Nat) (qs : Nat) (qk : Nat) (i0 : Nat)  :
    XM stX l yRun_init wRun_init { frames := 2, cells := 5, slots := 68, locals := 42 } (dC, dI) xCl (x_T kI kJ kZ) [(x0, .inr (3, [.null, .null, .null, .null, .null, .null, .null, .null, .int 0, .int 0, .int 0, .int 0, .int 0, .int 0, .int 0, .int 0, .int 0]))] [.ref x0, .ref qc, .ref qb, .ref qs, .ref qk, .ref i0] 5 68 x_eV (fun (r : Unit) (u : Nat × Nat × Nat × Nat × Nat) => True) (fun (u : Nat × Nat × Nat × Nat × Nat) => [(x0, .inr (3, [.ref qc, .ref qb, .ref qs, .ref qk, .ref i0, .ref u.1, .ref u.2.2.1, .ref u.2.2.2.2, .int 0, .int 0, .int 0, .int 0, .int 0, .int 0, .int 0, .int 0, .int 0])), (u.1, .inr (2, [.ref u.2.1, .int 0])), (u.2.1, .inl (kI, 32, .inl (fun _ => 0))), (u.2.2.1, .inr (2, [.ref u.2.2.2.1, .int 0])), (u.2.2.2.1, .inl (kI, 8, .inl (fun _ => 0))), (u.2.2.2.2, .inl (kI, 24, .inl (fun _ => 0)))]) := by
  refine XM.ofV (cc := cRun_init) (maxL := 6) (by decide) rfl (Nat.le_of_ble_eq_true rfl) ?_
  intro p e s m below meth c A Q hx hb hr hml hown hts hlocks hin hA hK hP hD hX hS ls hl hret
  have hl : lv_has ls 6 [(0, .ref x0), (1, .ref qc), (2, .ref qb), (3, .ref qs), (4, .ref qk), (5, .ref i0)] := hl
  refine lv_aload_n hx hb dRun_init_0 rfl (lv_at hl 0 rfl) ?_
  refine W.objInit hx hb hown (hts (.methodLink RRun 3 objectInit) (List.mem_cons_of_mem _ gw137)) (hts (.instanceMethod objectInit) (List.mem_cons_of_mem _ gw57)) (hts (.code objectInit ⟨#[0xb1]⟩ 1 none) (List.mem_cons_of_mem _ gw58)) rfl (by rw [hml]; exact hl.1) rfl dRun_init_1 (Nat.le_of_ble_eq_true rfl) (Nat.le_of_ble_eq_true rfl) ?_
  refine W.eq (g2 := F0 m 4 ls []) rfl ?_
  refine lv_aload_n hx hb dRun_init_4 rfl (lv_at hl 0 rfl) ?_
  refine va_new (D := (dC, dI)) (ci := 2) (C := RRow) (T := TRow) (N := 2) (fs := [.null, .int 0]) hx hb hts (fun w h => List.mem_cons_of_mem _ (layRow w h)) tyRow tykRow hown (hts (.classLink RRun 9 RRow) (List.mem_cons_of_mem _ gw138)) (hts (.instantiable RRow 2) (List.mem_cons_of_mem _ gw117)) (hts (.initialized RRow) (List.mem_cons_of_mem _ gw40)) hK hP hD hS hA rfl (by decide +kernel) (Nat.le_of_ble_eq_true rfl) (Nat.le_of_ble_eq_true rfl) dRun_init_5 (fun a_1 H hP hD hS => ?_)
  have hP : va_P (dC, dI) xCl [(x0, .inr (3, [.null, .null, .null, .null, .null, .null, .null, .null, .int 0, .int 0, .int 0, .int 0, .int 0, .int 0, .int 0, .int 0, .int 0])), (a_1, .inr (2, [.null, .int 0]))] H := hP
  have hD : va_D A [(x0, .inr (3, [.null, .null, .null, .null, .null, .null, .null, .null, .int 0, .int 0, .int 0, .int 0, .int 0, .int 0, .int 0, .int 0, .int 0])), (a_1, .inr (2, [.null, .int 0]))] := hD
  refine lv_dup hx hb dRun_init_8 rfl ?_
  refine lv_bipush (v := 32) hx hb dRun_init_9 (by decide) ?_
  refine XM.callIv (As := [.int 32]) (rest := [.ref a_1, .ref x0]) (wr := [(x0, .inr (3, [.null, .null, .null, .null, .null, .null, .null, .null, .int 0, .int 0, .int 0, .int 0, .int 0, .int 0, .int 0, .int 0, .int 0]))]) stX_ok ⟨hx, hb, hml, hown, hts⟩ (kRow_init32 l dC dI kI kJ kZ a_1 ) (cwI 1 hts (x_gI gw120) rfl rfl rfl (hts (.initialized RRow) (List.mem_cons_of_mem _ gw40)) (hts (.methodLink RRun 11 yRow_init) (List.mem_cons_of_mem _ gw139)) (hts (.instanceMethod yRow_init) (List.mem_cons_of_mem _ gw119)) rfl (by decide +kernel) ⟨Nat.le_of_ble_eq_true rfl, Nat.le_of_ble_eq_true rfl⟩) hK hP hD hS hA hX [1] [0] rfl rfl (by decide) (by decide) (by decide) rfl rfl hl.1 (Nat.le_of_ble_eq_true rfl) dRun_init_11 ⟨Nat.le_of_ble_eq_true rfl, Nat.le_of_ble_eq_true rfl⟩ (fun u_2 H locs hw hP hD hS => ?_)
  obtain ⟨x1_4, e9⟩ : ∃ z, z = u_2 := ⟨_, rfl⟩; subst e9
  have hP : va_P (dC, dI) xCl [(x0, .inr (3, [.null, .null, .null, .null, .null, .null, .null, .null, .int 0, .int 0, .int 0, .int 0, .int 0, .int 0, .int 0, .int 0, .int 0])), (a_1, .inr (2, [.ref x1_4, .int 0])), (x1_4, .inl (kI, 32, .inl (fun _ => 0)))] H := hP
  have hD : va_D A [(x0, .inr (3, [.null, .null, .null, .null, .null, .null, .null, .null, .int 0, .int 0, .int 0, .int 0, .int 0, .int 0, .int 0, .int 0, .int 0])), (a_1, .inr (2, [.ref x1_4, .int 0])), (x1_4, .inl (kI, 32, .inl (fun _ => 0)))] := hD
  refine va_putF (D := (dC, dI)) (ci := 3) (v := .ref a_1) (ty := .object "CallLedger$Row") (C := RRun) (T := TRun) (N := 17) hx hb hts (fun w h => List.mem_cons_of_mem _ (layRun w h)) tyRun tykRun nmRun hown hK hP hD hS 0 rfl rfl 5 (by decide) (hts (.fieldLink RRun 14 "CallLedger$Run" "stack" "LCallLedger$Row;") (List.mem_cons_of_mem _ gw145)) (fun _ h9 => h9) rfl hin rfl (by decide +kernel) rfl rfl (Nat.le_of_ble_eq_true rfl) dRun_init_14 (fun H locs hP hD hS => ?_)
  have hP : va_P (dC, dI) xCl [(x0, .inr (3, [.null, .null, .null, .null, .null, .ref a_1, .null, .null, .int 0, .int 0, .int 0, .int 0, .int 0, .int 0, .int 0, .int 0, .int 0])), (a_1, .inr (2, [.ref x1_4, .int 0])), (x1_4, .inl (kI, 32, .inl (fun _ => 0)))] H := hP
  have hD : va_D A [(x0, .inr (3, [.null, .null, .null, .null, .null, .ref a_1, .null, .null, .int 0, .int 0, .int 0, .int 0, .int 0, .int 0, .int 0, .int 0, .int 0])), (a_1, .inr (2, [.ref x1_4, .int 0])), (x1_4, .inl (kI, 32, .inl (fun _ => 0)))] := hD
  refine lv_aload_n hx hb dRun_init_17 rfl (lv_at hl 0 rfl) ?_
  refine va_new (D := (dC, dI)) (ci := 2) (C := RRow) (T := TRow) (N := 2) (fs := [.null, .int 0]) hx hb hts (fun w h => List.mem_cons_of_mem _ (layRow w h)) tyRow tykRow hown (hts (.classLink RRun 9 RRow) (List.mem_cons_of_mem _ gw138)) (hts (.instantiable RRow 2) (List.mem_cons_of_mem _ gw117)) (hts (.initialized RRow) (List.mem_cons_of_mem _ gw40)) hK hP hD hS hA rfl (by decide +kernel) (Nat.le_of_ble_eq_true rfl) (Nat.le_of_ble_eq_true rfl) dRun_init_18 (fun a_5 H hP hD hS => ?_)
  have hP : va_P (dC, dI) xCl [(x0, .inr (3, [.null, .null, .null, .null, .null, .ref a_1, .null, .null, .int 0, .int 0, .int 0, .int 0, .int 0, .int 0, .int 0, .int 0, .int 0])), (a_1, .inr (2, [.ref x1_4, .int 0])), (x1_4, .inl (kI, 32, .inl (fun _ => 0))), (a_5, .inr (2, [.null, .int 0]))] H := hP
  have hD : va_D A [(x0, .inr (3, [.null, .null, .null, .null, .null, .ref a_1, .null, .null, .int 0, .int 0, .int 0, .int 0, .int 0, .int 0, .int 0, .int 0, .int 0])), (a_1, .inr (2, [.ref x1_4, .int 0])), (x1_4, .inl (kI, 32, .inl (fun _ => 0))), (a_5, .inr (2, [.null, .int 0]))] := hD
  refine lv_dup hx hb dRun_init_21 rfl ?_
  refine lv_bipush (v := 8) hx hb dRun_init_22 (by decide) ?_
  refine XM.callIv (As := [.int 8]) (rest := [.ref a_5, .ref x0]) (wr := [(x0, .inr (3, [.null, .null, .null, .null, .null, .ref a_1, .null, .null, .int 0, .int 0, .int 0, .int 0, .int 0, .int 0, .int 0, .int 0, .int 0])), (a_1, .inr (2, [.ref x1_4, .int 0])), (x1_4, .inl (kI, 32, .inl (fun _ => 0)))]) stX_ok ⟨hx, hb, hml, hown, hts⟩ (kRow_init8 l dC dI kI kJ kZ a_5 ) (cwI 1 hts (x_gI gw120) rfl rfl rfl (hts (.initialized RRow) (List.mem_cons_of_mem _ gw40)) (hts (.methodLink RRun 11 yRow_init) (List.mem_cons_of_mem _ gw139)) (hts (.instanceMethod yRow_init) (List.mem_cons_of_mem _ gw119)) rfl (by decide +kernel) ⟨Nat.le_of_ble_eq_true rfl, Nat.le_of_ble_eq_true rfl⟩) hK hP hD hS hA hX [3] [0, 1, 2] rfl rfl (by decide) (by decide) (by decide) rfl rfl hl.1 (Nat.le_of_ble_eq_true rfl) dRun_init_24 ⟨Nat.le_of_ble_eq_true rfl, Nat.le_of_ble_eq_true rfl⟩ (fun u_6 H locs hw hP hD hS => ?_)
  obtain ⟨x1_8, e9⟩ : ∃ z, z = u_6 := ⟨_, rfl⟩; subst e9
  have hP : va_P (dC, dI) xCl [(x0, .inr (3, [.null, .null, .null, .null, .null, .ref a_1, .null, .null, .int 0, .int 0, .int 0, .int 0, .int 0, .int 0, .int 0, .int 0, .int 0])), (a_1, .inr (2, [.ref x1_4, .int 0])), (x1_4, .inl (kI, 32, .inl (fun _ => 0))), (a_5, .inr (2, [.ref x1_8, .int 0])), (x1_8, .inl (kI, 8, .inl (fun _ => 0)))] H := hP
  have hD : va_D A [(x0, .inr (3, [.null, .null, .null, .null, .null, .ref a_1, .null, .null, .int 0, .int 0, .int 0, .int 0, .int 0, .int 0, .int 0, .int 0, .int 0])), (a_1, .inr (2, [.ref x1_4, .int 0])), (x1_4, .inl (kI, 32, .inl (fun _ => 0))), (a_5, .inr (2, [.ref x1_8, .int 0])), (x1_8, .inl (kI, 8, .inl (fun _ => 0)))] := hD
  refine va_putF (D := (dC, dI)) (ci := 3) (v := .ref a_5) (ty := .object "CallLedger$Row") (C := RRun) (T := TRun) (N := 17) hx hb hts (fun w h => List.mem_cons_of_mem _ (layRun w h)) tyRun tykRun nmRun hown hK hP hD hS 0 rfl rfl 6 (by decide) (hts (.fieldLink RRun 20 "CallLedger$Run" "arguments" "LCallLedger$Row;") (List.mem_cons_of_mem _ gw146)) (fun _ h9 => h9) rfl hin rfl (by decide +kernel) rfl rfl (Nat.le_of_ble_eq_true rfl) dRun_init_27 (fun H locs hP hD hS => ?_)
  have hP : va_P (dC, dI) xCl [(x0, .inr (3, [.null, .null, .null, .null, .null, .ref a_1, .ref a_5, .null, .int 0, .int 0, .int 0, .int 0, .int 0, .int 0, .int 0, .int 0, .int 0])), (a_1, .inr (2, [.ref x1_4, .int 0])), (x1_4, .inl (kI, 32, .inl (fun _ => 0))), (a_5, .inr (2, [.ref x1_8, .int 0])), (x1_8, .inl (kI, 8, .inl (fun _ => 0)))] H := hP
  have hD : va_D A [(x0, .inr (3, [.null, .null, .null, .null, .null, .ref a_1, .ref a_5, .null, .int 0, .int 0, .int 0, .int 0, .int 0, .int 0, .int 0, .int 0, .int 0])), (a_1, .inr (2, [.ref x1_4, .int 0])), (x1_4, .inl (kI, 32, .inl (fun _ => 0))), (a_5, .inr (2, [.ref x1_8, .int 0])), (x1_8, .inl (kI, 8, .inl (fun _ => 0)))] := hD
  refine lv_aload_n hx hb dRun_init_30 rfl (lv_at hl 0 rfl) ?_
  refine lv_bipush (v := 24) hx hb dRun_init_31 (by decide) ?_
  refine x_newaI (N := 24) hx hb (hts (.arrayClass .int) (List.mem_cons_of_mem _ gw75)) hK hP hD hS hA (rfl) (Nat.le_of_ble_eq_true rfl) (Nat.le_of_ble_eq_true rfl) (Nat.le_of_ble_eq_true rfl) dRun_init_33 (fun a_9 H hP hD hS => ?_)
  have hP : va_P (dC, dI) xCl [(x0, .inr (3, [.null, .null, .null, .null, .null, .ref a_1, .ref a_5, .null, .int 0, .int 0, .int 0, .int 0, .int 0, .int 0, .int 0, .int 0, .int 0])), (a_1, .inr (2, [.ref x1_4, .int 0])), (x1_4, .inl (kI, 32, .inl (fun _ => 0))), (a_5, .inr (2, [.ref x1_8, .int 0])), (x1_8, .inl (kI, 8, .inl (fun _ => 0))), (a_9, .inl (kI, 24, .inl (fun _ => 0)))] H := hP
  have hD : va_D A [(x0, .inr (3, [.null, .null, .null, .null, .null, .ref a_1, .ref a_5, .null, .int 0, .int 0, .int 0, .int 0, .int 0, .int 0, .int 0, .int 0, .int 0])), (a_1, .inr (2, [.ref x1_4, .int 0])), (x1_4, .inl (kI, 32, .inl (fun _ => 0))), (a_5, .inr (2, [.ref x1_8, .int 0])), (x1_8, .inl (kI, 8, .inl (fun _ => 0))), (a_9, .inl (kI, 24, .inl (fun _ => 0)))] := hD
  refine va_putF (D := (dC, dI)) (ci := 3) (v := .ref a_9) (ty := .array .int) (C := RRun) (T := TRun) (N := 17) hx hb hts (fun w h => List.mem_cons_of_mem _ (layRun w h)) tyRun tykRun nmRun hown hK hP hD hS 0 rfl rfl 7 (by decide) (hts (.fieldLink RRun 23 "CallLedger$Run" "balancesBefore" "[I") (List.mem_cons_of_mem _ gw148)) (fun _ h9 => h9) rfl hin rfl (by decide +kernel) rfl rfl (Nat.le_of_ble_eq_true rfl) dRun_init_35 (fun H locs hP hD hS => ?_)
  have hP : va_P (dC, dI) xCl [(x0, .inr (3, [.null, .null, .null, .null, .null, .ref a_1, .ref a_5, .ref a_9, .int 0, .int 0, .int 0, .int 0, .int 0, .int 0, .int 0, .int 0, .int 0])), (a_1, .inr (2, [.ref x1_4, .int 0])), (x1_4, .inl (kI, 32, .inl (fun _ => 0))), (a_5, .inr (2, [.ref x1_8, .int 0])), (x1_8, .inl (kI, 8, .inl (fun _ => 0))), (a_9, .inl (kI, 24, .inl (fun _ => 0)))] H := hP
  have hD : va_D A [(x0, .inr (3, [.null, .null, .null, .null, .null, .ref a_1, .ref a_5, .ref a_9, .int 0, .int 0, .int 0, .int 0, .int 0, .int 0, .int 0, .int 0, .int 0])), (a_1, .inr (2, [.ref x1_4, .int 0])), (x1_4, .inl (kI, 32, .inl (fun _ => 0))), (a_5, .inr (2, [.ref x1_8, .int 0])), (x1_8, .inl (kI, 8, .inl (fun _ => 0))), (a_9, .inl (kI, 24, .inl (fun _ => 0)))] := hD
  refine lv_aload_n hx hb dRun_init_38 rfl (lv_at hl 0 rfl) ?_
  refine lv_aload_n hx hb dRun_init_39 rfl (lv_at hl 1 rfl) ?_
  refine va_putF (D := (dC, dI)) (ci := 3) (v := .ref qc) (ty := .object "CallLedger$Codes") (C := RRun) (T := TRun) (N := 17) hx hb hts (fun w h => List.mem_cons_of_mem _ (layRun w h)) tyRun tykRun nmRun hown hK hP hD hS 0 rfl rfl 0 (by decide) (hts (.fieldLink RRun 27 "CallLedger$Run" "codes" "LCallLedger$Codes;") (List.mem_cons_of_mem _ gw140)) (fun _ h9 => h9) rfl hin rfl (by decide +kernel) rfl rfl (Nat.le_of_ble_eq_true rfl) dRun_init_40 (fun H locs hP hD hS => ?_)
  have hP : va_P (dC, dI) xCl [(x0, .inr (3, [.ref qc, .null, .null, .null, .null, .ref a_1, .ref a_5, .ref a_9, .int 0, .int 0, .int 0, .int 0, .int 0, .int 0, .int 0, .int 0, .int 0])), (a_1, .inr (2, [.ref x1_4, .int 0])), (x1_4, .inl (kI, 32, .inl (fun _ => 0))), (a_5, .inr (2, [.ref x1_8, .int 0])), (x1_8, .inl (kI, 8, .inl (fun _ => 0))), (a_9, .inl (kI, 24, .inl (fun _ => 0)))] H := hP
  have hD : va_D A [(x0, .inr (3, [.ref qc, .null, .null, .null, .null, .ref a_1, .ref a_5, .ref a_9, .int 0, .int 0, .int 0, .int 0, .int 0, .int 0, .int 0, .int 0, .int 0])), (a_1, .inr (2, [.ref x1_4, .int 0])), (x1_4, .inl (kI, 32, .inl (fun _ => 0))), (a_5, .inr (2, [.ref x1_8, .int 0])), (x1_8, .inl (kI, 8, .inl (fun _ => 0))), (a_9, .inl (kI, 24, .inl (fun _ => 0)))] := hD
  refine lv_aload_n hx hb dRun_init_43 rfl (lv_at hl 0 rfl) ?_
  refine lv_aload_n hx hb dRun_init_44 rfl (lv_at hl 2 rfl) ?_
  refine va_putF (D := (dC, dI)) (ci := 3) (v := .ref qb) (ty := .object "CallLedger$Balances") (C := RRun) (T := TRun) (N := 17) hx hb hts (fun w h => List.mem_cons_of_mem _ (layRun w h)) tyRun tykRun nmRun hown hK hP hD hS 0 rfl rfl 1 (by decide) (hts (.fieldLink RRun 31 "CallLedger$Run" "balances" "LCallLedger$Balances;") (List.mem_cons_of_mem _ gw141)) (fun _ h9 => h9) rfl hin rfl (by decide +kernel) rfl rfl (Nat.le_of_ble_eq_true rfl) dRun_init_45 (fun H locs hP hD hS => ?_)
  have hP : va_P (dC, dI) xCl [(x0, .inr (3, [.ref qc, .ref qb, .null, .null, .null, .ref a_1, .ref a_5, .ref a_9, .int 0, .int 0, .int 0, .int 0, .int 0, .int 0, .int 0, .int 0, .int 0])), (a_1, .inr (2, [.ref x1_4, .int 0])), (x1_4, .inl (kI, 32, .inl (fun _ => 0))), (a_5, .inr (2, [.ref x1_8, .int 0])), (x1_8, .inl (kI, 8, .inl (fun _ => 0))), (a_9, .inl (kI, 24, .inl (fun _ => 0)))] H := hP
  have hD : va_D A [(x0, .inr (3, [.ref qc, .ref qb, .null, .null, .null, .ref a_1, .ref a_5, .ref a_9, .int 0, .int 0, .int 0, .int 0, .int 0, .int 0, .int 0, .int 0, .int 0])), (a_1, .inr (2, [.ref x1_4, .int 0])), (x1_4, .inl (kI, 32, .inl (fun _ => 0))), (a_5, .inr (2, [.ref x1_8, .int 0])), (x1_8, .inl (kI, 8, .inl (fun _ => 0))), (a_9, .inl (kI, 24, .inl (fun _ => 0)))] := hD
  refine lv_aload_n hx hb dRun_init_48 rfl (lv_at hl 0 rfl) ?_
  refine lv_aload_n hx hb dRun_init_49 rfl (lv_at hl 3 rfl) ?_
  refine va_putF (D := (dC, dI)) (ci := 3) (v := .ref qs) (ty := .object "CallLedger$Store") (C := RRun) (T := TRun) (N := 17) hx hb hts (fun w h => List.mem_cons_of_mem _ (layRun w h)) tyRun tykRun nmRun hown hK hP hD hS 0 rfl rfl 2 (by decide) (hts (.fieldLink RRun 35 "CallLedger$Run" "store" "LCallLedger$Store;") (List.mem_cons_of_mem _ gw142)) (fun _ h9 => h9) rfl hin rfl (by decide +kernel) rfl rfl (Nat.le_of_ble_eq_true rfl) dRun_init_50 (fun H locs hP hD hS => ?_)
  have hP : va_P (dC, dI) xCl [(x0, .inr (3, [.ref qc, .ref qb, .ref qs, .null, .null, .ref a_1, .ref a_5, .ref a_9, .int 0, .int 0, .int 0, .int 0, .int 0, .int 0, .int 0, .int 0, .int 0])), (a_1, .inr (2, [.ref x1_4, .int 0])), (x1_4, .inl (kI, 32, .inl (fun _ => 0))), (a_5, .inr (2, [.ref x1_8, .int 0])), (x1_8, .inl (kI, 8, .inl (fun _ => 0))), (a_9, .inl (kI, 24, .inl (fun _ => 0)))] H := hP
  have hD : va_D A [(x0, .inr (3, [.ref qc, .ref qb, .ref qs, .null, .null, .ref a_1, .ref a_5, .ref a_9, .int 0, .int 0, .int 0, .int 0, .int 0, .int 0, .int 0, .int 0, .int 0])), (a_1, .inr (2, [.ref x1_4, .int 0])), (x1_4, .inl (kI, 32, .inl (fun _ => 0))), (a_5, .inr (2, [.ref x1_8, .int 0])), (x1_8, .inl (kI, 8, .inl (fun _ => 0))), (a_9, .inl (kI, 24, .inl (fun _ => 0)))] := hD
  refine lv_aload_n hx hb dRun_init_53 rfl (lv_at hl 0 rfl) ?_
  refine lv_aload hx hb dRun_init_54 (lv_at hl 4 rfl) ?_
  refine va_putF (D := (dC, dI)) (ci := 3) (v := .ref qk) (ty := .object "CallLedger$Row") (C := RRun) (T := TRun) (N := 17) hx hb hts (fun w h => List.mem_cons_of_mem _ (layRun w h)) tyRun tykRun nmRun hown hK hP hD hS 0 rfl rfl 3 (by decide) (hts (.fieldLink RRun 39 "CallLedger$Run" "kept" "LCallLedger$Row;") (List.mem_cons_of_mem _ gw143)) (fun _ h9 => h9) rfl hin rfl (by decide +kernel) rfl rfl (Nat.le_of_ble_eq_true rfl) dRun_init_56 (fun H locs hP hD hS => ?_)
  have hP : va_P (dC, dI) xCl [(x0, .inr (3, [.ref qc, .ref qb, .ref qs, .ref qk, .null, .ref a_1, .ref a_5, .ref a_9, .int 0, .int 0, .int 0, .int 0, .int 0, .int 0, .int 0, .int 0, .int 0])), (a_1, .inr (2, [.ref x1_4, .int 0])), (x1_4, .inl (kI, 32, .inl (fun _ => 0))), (a_5, .inr (2, [.ref x1_8, .int 0])), (x1_8, .inl (kI, 8, .inl (fun _ => 0))), (a_9, .inl (kI, 24, .inl (fun _ => 0)))] H := hP
  have hD : va_D A [(x0, .inr (3, [.ref qc, .ref qb, .ref qs, .ref qk, .null, .ref a_1, .ref a_5, .ref a_9, .int 0, .int 0, .int 0, .int 0, .int 0, .int 0, .int 0, .int 0, .int 0])), (a_1, .inr (2, [.ref x1_4, .int 0])), (x1_4, .inl (kI, 32, .inl (fun _ => 0))), (a_5, .inr (2, [.ref x1_8, .int 0])), (x1_8, .inl (kI, 8, .inl (fun _ => 0))), (a_9, .inl (kI, 24, .inl (fun _ => 0)))] := hD
  refine lv_aload_n hx hb dRun_init_59 rfl (lv_at hl 0 rfl) ?_
  refine lv_aload hx hb dRun_init_60 (lv_at hl 5 rfl) ?_
  refine va_putF (D := (dC, dI)) (ci := 3) (v := .ref i0) (ty := .object "CallLedger$Run") (C := RRun) (T := TRun) (N := 17) hx hb hts (fun w h => List.mem_cons_of_mem _ (layRun w h)) tyRun tykRun nmRun hown hK hP hD hS 0 rfl rfl 4 (by decide) (hts (.fieldLink RRun 42 "CallLedger$Run" "inner" "LCallLedger$Run;") (List.mem_cons_of_mem _ gw144)) (fun _ h9 => h9) rfl hin rfl (by decide +kernel) rfl rfl (Nat.le_of_ble_eq_true rfl) dRun_init_62 (fun H locs hP hD hS => ?_)
  have hP : va_P (dC, dI) xCl [(x0, .inr (3, [.ref qc, .ref qb, .ref qs, .ref qk, .ref i0, .ref a_1, .ref a_5, .ref a_9, .int 0, .int 0, .int 0, .int 0, .int 0, .int 0, .int 0, .int 0, .int 0])), (a_1, .inr (2, [.ref x1_4, .int 0])), (x1_4, .inl (kI, 32, .inl (fun _ => 0))), (a_5, .inr (2, [.ref x1_8, .int 0])), (x1_8, .inl (kI, 8, .inl (fun _ => 0))), (a_9, .inl (kI, 24, .inl (fun _ => 0)))] H := hP
  have hD : va_D A [(x0, .inr (3, [.ref qc, .ref qb, .ref qs, .ref qk, .ref i0, .ref a_1, .ref a_5, .ref a_9, .int 0, .int 0, .int 0, .int 0, .int 0, .int 0, .int 0, .int 0, .int 0])), (a_1, .inr (2, [.ref x1_4, .int 0])), (x1_4, .inl (kI, 32, .inl (fun _ => 0))), (a_5, .inr (2, [.ref x1_8, .int 0])), (x1_8, .inl (kI, 8, .inl (fun _ => 0))), (a_9, .inl (kI, 24, .inl (fun _ => 0)))] := hD
  exact hret  ((a_1, x1_4, a_5, x1_8, a_9)) _ _ _ (trivial) (hP.sub [0, 1, 2, 3, 4, 5] rfl) (hD.sub [0, 1, 2, 3, 4, 5] (by decide) rfl) hS dRun_init_65

