theorem dCod_isPlace_0 : decode cCod_isPlace 0 = .ok (.iload_n 0, 1) := by decide +kernel
theorem dCod_isPlace_1 : decode cCod_isPlace 1 = .ok (.ifCond .lt 24, 3) := by decide +kernel
theorem dCod_isPlace_4 : decode cCod_isPlace 4 = .ok (.iload_n 0, 1) := by decide +kernel
theorem dCod_isPlace_5 : decode cCod_isPlace 5 = .ok (.bipush 24, 2) := by decide +kernel
theorem dCod_isPlace_7 : decode cCod_isPlace 7 = .ok (.if_icmp .ge 18, 3) := by decide +kernel
theorem dCod_isPlace_10 : decode cCod_isPlace 10 = .ok (.iload_n 1, 1) := by decide +kernel
theorem dCod_isPlace_11 : decode cCod_isPlace 11 = .ok (.ifCond .lt 14, 3) := by decide +kernel
theorem dCod_isPlace_14 : decode cCod_isPlace 14 = .ok (.iload_n 1, 1) := by decide +kernel
theorem dCod_isPlace_15 : decode cCod_isPlace 15 = .ok (.sipush 160, 3) := by decide +kernel
theorem dCod_isPlace_18 : decode cCod_isPlace 18 = .ok (.if_icmp .ge 7, 3) := by decide +kernel
theorem dCod_isPlace_21 : decode cCod_isPlace 21 = .ok (.iconst 1, 1) := by decide +kernel
theorem dCod_isPlace_22 : decode cCod_isPlace 22 = .ok (.goto 4, 3) := by decide +kernel
theorem dCod_isPlace_25 : decode cCod_isPlace 25 = .ok (.iconst 0, 1) := by decide +kernel
theorem dCod_isPlace_26 : decode cCod_isPlace 26 = .ok (.ireturn, 1) := by decide +kernel
theorem dCod_instructionOf_0 : decode cCod_instructionOf 0 = .ok (.iload_n 0, 1) := by decide +kernel
theorem dCod_instructionOf_1 : decode cCod_instructionOf 1 = .ok (.sipush 255, 3) := by decide +kernel
theorem dCod_instructionOf_4 : decode cCod_instructionOf 4 = .ok (.iand, 1) := by decide +kernel
theorem dCod_instructionOf_5 : decode cCod_instructionOf 5 = .ok (.ireturn, 1) := by decide +kernel
theorem dCod_numberOf_0 : decode cCod_numberOf 0 = .ok (.iload_n 0, 1) := by decide +kernel
theorem dCod_numberOf_1 : decode cCod_numberOf 1 = .ok (.bipush 8, 2) := by decide +kernel
theorem dCod_numberOf_3 : decode cCod_numberOf 3 = .ok (.ishr, 1) := by decide +kernel
theorem dCod_numberOf_4 : decode cCod_numberOf 4 = .ok (.ireturn, 1) := by decide +kernel
theorem dCod_isSealed_0 : decode cCod_isSealed 0 = .ok (.iload_n 1, 1) := by decide +kernel
theorem dCod_isSealed_1 : decode cCod_isSealed 1 = .ok (.iconst 0, 1) := by decide +kernel
theorem dCod_isSealed_2 : decode cCod_isSealed 2 = .ok (.invokestatic 22, 3) := by decide +kernel
theorem dCod_isSealed_5 : decode cCod_isSealed 5 = .ok (.ifCond .eq 16, 3) := by decide +kernel
theorem dCod_isSealed_8 : decode cCod_isSealed 8 = .ok (.aload_n 0, 1) := by decide +kernel
theorem dCod_isSealed_9 : decode cCod_isSealed 9 = .ok (.getfield 18, 3) := by decide +kernel
theorem dCod_isSealed_12 : decode cCod_isSealed 12 = .ok (.iload_n 1, 1) := by decide +kernel
theorem dCod_isSealed_13 : decode cCod_isSealed 13 = .ok (.baload, 1) := by decide +kernel
theorem dCod_isSealed_14 : decode cCod_isSealed 14 = .ok (.ifCond .eq 7, 3) := by decide +kernel
theorem dCod_isSealed_17 : decode cCod_isSealed 17 = .ok (.iconst 1, 1) := by decide +kernel
theorem dCod_isSealed_18 : decode cCod_isSealed 18 = .ok (.goto 4, 3) := by decide +kernel
theorem dCod_isSealed_21 : decode cCod_isSealed 21 = .ok (.iconst 0, 1) := by decide +kernel
theorem dCod_isSealed_22 : decode cCod_isSealed 22 = .ok (.ireturn, 1) := by decide +kernel
theorem dCod_wordAt_0 : decode cCod_wordAt 0 = .ok (.iload_n 1, 1) := by decide +kernel
theorem dCod_wordAt_1 : decode cCod_wordAt 1 = .ok (.iload_n 2, 1) := by decide +kernel
theorem dCod_wordAt_2 : decode cCod_wordAt 2 = .ok (.invokestatic 22, 3) := by decide +kernel
theorem dCod_wordAt_5 : decode cCod_wordAt 5 = .ok (.ifCond .eq 18, 3) := by decide +kernel
theorem dCod_wordAt_8 : decode cCod_wordAt 8 = .ok (.aload_n 0, 1) := by decide +kernel
theorem dCod_wordAt_9 : decode cCod_wordAt 9 = .ok (.getfield 9, 3) := by decide +kernel
theorem dCod_wordAt_12 : decode cCod_wordAt 12 = .ok (.iload_n 1, 1) := by decide +kernel
theorem dCod_wordAt_13 : decode cCod_wordAt 13 = .ok (.sipush 160, 3) := by decide +kernel
theorem dCod_wordAt_16 : decode cCod_wordAt 16 = .ok (.imul, 1) := by decide +kernel
theorem dCod_wordAt_17 : decode cCod_wordAt 17 = .ok (.iload_n 2, 1) := by decide +kernel
theorem dCod_wordAt_18 : decode cCod_wordAt 18 = .ok (.iadd, 1) := by decide +kernel
theorem dCod_wordAt_19 : decode cCod_wordAt 19 = .ok (.iaload, 1) := by decide +kernel
theorem dCod_wordAt_20 : decode cCod_wordAt 20 = .ok (.goto 4, 3) := by decide +kernel
theorem dCod_wordAt_23 : decode cCod_wordAt 23 = .ok (.iconst 0, 1) := by decide +kernel
theorem dCod_wordAt_24 : decode cCod_wordAt 24 = .ok (.ireturn, 1) := by decide +kernel
theorem dCod_lengthToRun_0 : decode cCod_lengthToRun 0 = .ok (.aload_n 0, 1) := by decide +kernel
theorem dCod_lengthToRun_1 : decode cCod_lengthToRun 1 = .ok (.iload_n 1, 1) := by decide +kernel
theorem dCod_lengthToRun_2 : decode cCod_lengthToRun 2 = .ok (.invokevirtual 33, 3) := by decide +kernel
theorem dCod_lengthToRun_5 : decode cCod_lengthToRun 5 = .ok (.ifCond .eq 12, 3) := by decide +kernel
theorem dCod_lengthToRun_8 : decode cCod_lengthToRun 8 = .ok (.aload_n 0, 1) := by decide +kernel
theorem dCod_lengthToRun_9 : decode cCod_lengthToRun 9 = .ok (.getfield 15, 3) := by decide +kernel
theorem dCod_lengthToRun_12 : decode cCod_lengthToRun 12 = .ok (.iload_n 1, 1) := by decide +kernel
theorem dCod_lengthToRun_13 : decode cCod_lengthToRun 13 = .ok (.iaload, 1) := by decide +kernel
theorem dCod_lengthToRun_14 : decode cCod_lengthToRun 14 = .ok (.goto 4, 3) := by decide +kernel
theorem dCod_lengthToRun_17 : decode cCod_lengthToRun 17 = .ok (.iconst 0, 1) := by decide +kernel
theorem dCod_lengthToRun_18 : decode cCod_lengthToRun 18 = .ok (.ireturn, 1) := by decide +kernel
theorem dCod_append_0 : decode cCod_append 0 = .ok (.iload_n 1, 1) := by decide +kernel
theorem dCod_append_1 : decode cCod_append 1 = .ok (.iconst 0, 1) := by decide +kernel
theorem dCod_append_2 : decode cCod_append 2 = .ok (.invokestatic 22, 3) := by decide +kernel
theorem dCod_append_5 : decode cCod_append 5 = .ok (.ifCond .eq 16, 3) := by decide +kernel
theorem dCod_append_8 : decode cCod_append 8 = .ok (.iload_n 1, 1) := by decide +kernel
theorem dCod_append_9 : decode cCod_append 9 = .ok (.aload_n 0, 1) := by decide +kernel
theorem dCod_append_10 : decode cCod_append 10 = .ok (.getfield 15, 3) := by decide +kernel
theorem dCod_append_13 : decode cCod_append 13 = .ok (.iload_n 1, 1) := by decide +kernel
theorem dCod_append_14 : decode cCod_append 14 = .ok (.iaload, 1) := by decide +kernel
theorem dCod_append_15 : decode cCod_append 15 = .ok (.invokestatic 22, 3) := by decide +kernel
theorem dCod_append_18 : decode cCod_append 18 = .ok (.ifCond .ne 5, 3) := by decide +kernel
theorem dCod_append_21 : decode cCod_append 21 = .ok (.iconst (-1), 1) := by decide +kernel
theorem dCod_append_22 : decode cCod_append 22 = .ok (.ireturn, 1) := by decide +kernel
theorem dCod_append_23 : decode cCod_append 23 = .ok (.aload_n 0, 1) := by decide +kernel
theorem dCod_append_24 : decode cCod_append 24 = .ok (.getfield 9, 3) := by decide +kernel
theorem dCod_append_27 : decode cCod_append 27 = .ok (.iload_n 1, 1) := by decide +kernel
theorem dCod_append_28 : decode cCod_append 28 = .ok (.sipush 160, 3) := by decide +kernel
theorem dCod_append_31 : decode cCod_append 31 = .ok (.imul, 1) := by decide +kernel
theorem dCod_append_32 : decode cCod_append 32 = .ok (.aload_n 0, 1) := by decide +kernel
theorem dCod_append_33 : decode cCod_append 33 = .ok (.getfield 15, 3) := by decide +kernel
theorem dCod_append_36 : decode cCod_append 36 = .ok (.iload_n 1, 1) := by decide +kernel
theorem dCod_append_37 : decode cCod_append 37 = .ok (.iaload, 1) := by decide +kernel
theorem dCod_append_38 : decode cCod_append 38 = .ok (.iadd, 1) := by decide +kernel
theorem dCod_append_39 : decode cCod_append 39 = .ok (.iload_n 2, 1) := by decide +kernel
theorem dCod_append_40 : decode cCod_append 40 = .ok (.iastore, 1) := by decide +kernel
theorem dCod_append_41 : decode cCod_append 41 = .ok (.aload_n 0, 1) := by decide +kernel
theorem dCod_append_42 : decode cCod_append 42 = .ok (.getfield 15, 3) := by decide +kernel
theorem dCod_append_45 : decode cCod_append 45 = .ok (.iload_n 1, 1) := by decide +kernel
theorem dCod_append_46 : decode cCod_append 46 = .ok (.dup2, 1) := by decide +kernel
theorem dCod_append_47 : decode cCod_append 47 = .ok (.iaload, 1) := by decide +kernel
theorem dCod_append_48 : decode cCod_append 48 = .ok (.iconst 1, 1) := by decide +kernel
theorem dCod_append_49 : decode cCod_append 49 = .ok (.iadd, 1) := by decide +kernel
theorem dCod_append_50 : decode cCod_append 50 = .ok (.iastore, 1) := by decide +kernel
theorem dCod_append_51 : decode cCod_append 51 = .ok (.aload_n 0, 1) := by decide +kernel
theorem dCod_append_52 : decode cCod_append 52 = .ok (.getfield 15, 3) := by decide +kernel
theorem dCod_append_55 : decode cCod_append 55 = .ok (.iload_n 1, 1) := by decide +kernel
theorem dCod_append_56 : decode cCod_append 56 = .ok (.iaload, 1) := by decide +kernel
theorem dCod_append_57 : decode cCod_append 57 = .ok (.ireturn, 1) := by decide +kernel
theorem gw37 : .initialized RCod ∈ xG := List.mem_filter.mpr ⟨List.mem_of_getElem? (i := 37) (by decide +kernel), by decide +kernel⟩
theorem gw65 : .fieldLink RCod 9 "CallLedger$Codes" "words" "[I" ∈ xG := List.mem_filter.mpr ⟨List.mem_of_getElem? (i := 65) (by decide +kernel), by decide +kernel⟩
theorem gw66 : .fieldLink RCod 15 "CallLedger$Codes" "lengths" "[I" ∈ xG := List.mem_filter.mpr ⟨List.mem_of_getElem? (i := 66) (by decide +kernel), by decide +kernel⟩
theorem gw67 : .fieldLink RCod 18 "CallLedger$Codes" "sealedOnes" "[Z" ∈ xG := List.mem_filter.mpr ⟨List.mem_of_getElem? (i := 67) (by decide +kernel), by decide +kernel⟩
theorem gw382 : .instanceMethod yCod_isSealed ∈ xG := List.mem_filter.mpr ⟨List.mem_of_getElem? (i := 382) (by decide +kernel), by decide +kernel⟩
theorem gw383 : .selects RCod yCod_isSealed yCod_isSealed ∈ xG := List.mem_filter.mpr ⟨List.mem_of_getElem? (i := 383) (by decide +kernel), by decide +kernel⟩
theorem gw384 : .code yCod_isSealed cCod_isSealed 2 (some .boolean) ∈ xG := List.mem_filter.mpr ⟨List.mem_of_getElem? (i := 384) (by decide +kernel), by decide +kernel⟩
theorem gw385 : .methodLink RCod 22 yCod_isPlace ∈ xG := List.mem_filter.mpr ⟨List.mem_of_getElem? (i := 385) (by decide +kernel), by decide +kernel⟩
theorem gw386 : .static yCod_isPlace ∈ xG := List.mem_filter.mpr ⟨List.mem_of_getElem? (i := 386) (by decide +kernel), by decide +kernel⟩
theorem gw387 : .code yCod_isPlace cCod_isPlace 2 (some .boolean) ∈ xG := List.mem_filter.mpr ⟨List.mem_of_getElem? (i := 387) (by decide +kernel), by decide +kernel⟩
theorem gw492 : .methodLink RCod 33 yCod_isSealed ∈ xG := List.mem_filter.mpr ⟨List.mem_of_getElem? (i := 492) (by decide +kernel), by decide +kernel⟩
theorem x_updL (f : Nat → Nat) (k v : Nat) : upd (fun j => nI (f j)) k (nI v) = fun j => nI (va_up f k v j) := by
  funext j
  by_cases h : j = k
  · subst h; simp [upd, va_up]
  · simp [upd, va_up, h]
theorem x_updB (f : Nat → Bool) (k : Nat) (v : Bool) : upd (fun j => x_b (f j)) k (x_b v) = fun j => x_b (va_up f k v j) := by
  funext j
  by_cases h : j = k
  · subst h; simp [upd, va_up]
  · simp [upd, va_up, h]
/-- a word's instruction and number -/
def wI (w : Int32) : Int32 := w &&& 255
def wN (w : Int32) : Int32 := w >>> ((8 : Int32) &&& 31)
/-- what sealing asks of a word -/
def wGood (w : Int32) (len : Nat) : Bool :=
  if wI w = 3 then !(decide (wN w < 0)) && !(decide (15 < wN w))
  else if wI w = 4 then !(decide (wN w < 1)) && !(decide (15 < wN w))
  else if wI w = 16 ∨ wI w = 17 then !(decide (wN w < 0)) && !(decide (nI len < wN w))
  else if wI w = 27 then !(decide (wN w < 0)) && !(decide (8 < wN w))
  else !(decide (30 ≤ wI w))
theorem x_160 {a k : Nat} : nI a * 160 + nI k = nI (a * 160 + k) := by
  show nI a * nI 160 + nI k = _
  rw [pk_mul, nI_add]
set_option maxHeartbeats 4000000 in
set_option maxRecDepth 100000 in
theorem kCod_isPlace (l : Launch) (dC : Nat → ClassId) (dI : Nat → Nat → Nat) (kI kJ kZ : ClassId) (a : Nat) (k : Nat) (ha : a < 24) (hk : k < 2 ^ 30) :
    XM stX l yCod_isPlace wCod_isPlace { frames := 0, cells := 0, slots := 0, locals := 0 } (dC, dI) xCl (x_T kI kJ kZ) [] [.int (nI a), .int (nI k)] 0 0 x_eI (fun (r : Int32) (u : Unit) => r = if k < 160 then 1 else 0) (fun (u : Unit) => []) := by
  refine XM.ofZ (cc := cCod_isPlace) (maxL := 2) (by decide) rfl (Nat.le_of_ble_eq_true rfl) ?_
  intro p e s m below meth c A Q hx hb hr hml hown hts hlocks hin hA hK hP hD hX hS ls hl hret
  have hl : lv_has ls 2 [(0, .int (nI a)), (1, .int (nI k))] := hl
  refine lv_iload_n hx hb dCod_isPlace_0 rfl (lv_at hl 0 rfl) ?_
  refine lv_if_lt (tgt := 25) hx hb dCod_isPlace_1 (by decide) (fun c1 => ?_) (fun c1 => ?_)
  · have c1 : a < 0 := (nI_ltI (a := a) (b := 0) (by omega) (by omega)).mp c1
    exfalso; omega
  · have c1 : ¬ (a < 0) := fun z => c1 ((nI_ltI (a := a) (b := 0) (by omega) (by omega)).mpr z)
    refine lv_iload_n hx hb dCod_isPlace_4 rfl (lv_at hl 0 rfl) ?_
    refine lv_bipush (v := 24) hx hb dCod_isPlace_5 (by decide) ?_
    refine lv_icmp_ge (tgt := 25) hx hb dCod_isPlace_7 (by decide) (fun c7 => ?_) (fun c7 => ?_)
    · have c7 : 24 ≤ a := (nI_leI (a := 24) (b := a) (by omega) (by omega)).mp c7
      exfalso; omega
    · have c7 : ¬ (24 ≤ a) := fun z => c7 ((nI_leI (a := 24) (b := a) (by omega) (by omega)).mpr z)
      refine lv_iload_n hx hb dCod_isPlace_10 rfl (lv_at hl 1 rfl) ?_
      refine lv_if_lt (tgt := 25) hx hb dCod_isPlace_11 (by decide) (fun c11 => ?_) (fun c11 => ?_)
      · have c11 : k < 0 := (nI_ltI (a := k) (b := 0) (by omega) (by omega)).mp c11
        exfalso; omega
      · have c11 : ¬ (k < 0) := fun z => c11 ((nI_ltI (a := k) (b := 0) (by omega) (by omega)).mpr z)
        refine lv_iload_n hx hb dCod_isPlace_14 rfl (lv_at hl 1 rfl) ?_
        refine lv_sipush (v := 160) hx hb dCod_isPlace_15 (by decide) ?_
        refine lv_icmp_ge (tgt := 25) hx hb dCod_isPlace_18 (by decide) (fun c18 => ?_) (fun c18 => ?_)
        · have c18 : 160 ≤ k := (nI_leI (a := 160) (b := k) (by omega) (by omega)).mp c18
          refine lv_iconst (v := 0) hx hb dCod_isPlace_25 (by decide) ?_
          exact hret 0 (())  (rfl) _ _ _ (by first | rfl | (split <;> first | rfl | omega)) (hP.sub [] rfl) (hD.sub [] (by decide) rfl) hS dCod_isPlace_26
        · have c18 : ¬ (160 ≤ k) := fun z => c18 ((nI_leI (a := 160) (b := k) (by omega) (by omega)).mpr z)
          refine lv_iconst (v := 1) hx hb dCod_isPlace_21 (by decide) ?_
          refine lv_goto (tgt := 26) hx hb dCod_isPlace_22 (by decide) ?_
          exact hret 1 (())  (rfl) _ _ _ (by first | rfl | (split <;> first | rfl | omega)) (hP.sub [] rfl) (hD.sub [] (by decide) rfl) hS dCod_isPlace_26

set_option maxHeartbeats 4000000 in
set_option maxRecDepth 100000 in
theorem kCod_instructionOf (l : Launch) (dC : Nat → ClassId) (dI : Nat → Nat → Nat) (kI kJ kZ : ClassId) (w : Int32)  :
    XM stX l yCod_instructionOf wCod_instructionOf { frames := 0, cells := 0, slots := 0, locals := 0 } (dC, dI) xCl (x_T kI kJ kZ) [] [.int w] 0 0 x_eI (fun (r : Int32) (u : Unit) => r = wI w) (fun (u : Unit) => []) := by
  refine XM.ofI (cc := cCod_instructionOf) (maxL := 1) (by decide) rfl (Nat.le_of_ble_eq_true rfl) ?_
  intro p e s m below meth c A Q hx hb hr hml hown hts hlocks hin hA hK hP hD hX hS ls hl hret
  have hl : lv_has ls 1 [(0, .int w)] := hl
  refine lv_iload_n hx hb dCod_instructionOf_0 rfl (lv_at hl 0 rfl) ?_
  refine lv_sipush (v := 255) hx hb dCod_instructionOf_1 (by decide) ?_
  refine lv_iand hx hb dCod_instructionOf_4 ?_
  exact hret (w &&& 255) (()) _ _ _ (rfl) (hP.sub [] rfl) (hD.sub [] (by decide) rfl) hS dCod_instructionOf_5

set_option maxHeartbeats 4000000 in
set_option maxRecDepth 100000 in
theorem kCod_numberOf (l : Launch) (dC : Nat → ClassId) (dI : Nat → Nat → Nat) (kI kJ kZ : ClassId) (w : Int32)  :
    XM stX l yCod_numberOf wCod_numberOf { frames := 0, cells := 0, slots := 0, locals := 0 } (dC, dI) xCl (x_T kI kJ kZ) [] [.int w] 0 0 x_eI (fun (r : Int32) (u : Unit) => r = wN w) (fun (u : Unit) => []) := by
  refine XM.ofI (cc := cCod_numberOf) (maxL := 1) (by decide) rfl (Nat.le_of_ble_eq_true rfl) ?_
  intro p e s m below meth c A Q hx hb hr hml hown hts hlocks hin hA hK hP hD hX hS ls hl hret
  have hl : lv_has ls 1 [(0, .int w)] := hl
  refine lv_iload_n hx hb dCod_numberOf_0 rfl (lv_at hl 0 rfl) ?_
  refine lv_bipush (v := 8) hx hb dCod_numberOf_1 (by decide) ?_
  refine lv_ishr hx hb dCod_numberOf_3 ?_
  exact hret (w >>> (8 &&& 31)) (()) _ _ _ (rfl) (hP.sub [] rfl) (hD.sub [] (by decide) rfl) hS dCod_numberOf_4

set_option maxHeartbeats 4000000 in
set_option maxRecDepth 100000 in
theorem kCod_isSealed (l : Launch) (dC : Nat → ClassId) (dI : Nat → Nat → Nat) (kI kJ kZ : ClassId) (h0 : Nat) (h1 : Nat) (h2 : Nat) (h3 : Nat) (cw : Nat → Int32) (ln : Nat → Nat) (z : Nat → Bool) (a : Nat) (ha : a < 24) :
    XM stX l yCod_isSealed wCod_isSealed { frames := 1, cells := 0, slots := 0, locals := 21 } (dC, dI) xCl (x_T kI kJ kZ) [(h0, .inr (1, [.ref h1, .ref h2, .ref h3])), (h1, .inl (kI, 3840, .inl cw)), (h2, .inl (kI, 24, .inl (fun j => nI (ln j)))), (h3, .inl (kZ, 24, .inl (fun j => x_b (z j))))] [.ref h0, .int (nI a)] 0 0 x_eI (fun (r : Int32) (u : Unit) => r = x_b (z a)) (fun (u : Unit) => [(h0, .inr (1, [.ref h1, .ref h2, .ref h3])), (h1, .inl (kI, 3840, .inl cw)), (h2, .inl (kI, 24, .inl (fun j => nI (ln j)))), (h3, .inl (kZ, 24, .inl (fun j => x_b (z j))))]) := by
  refine XM.ofZ (cc := cCod_isSealed) (maxL := 2) (by decide) rfl (Nat.le_of_ble_eq_true rfl) ?_
  intro p e s m below meth c A Q hx hb hr hml hown hts hlocks hin hA hK hP hD hX hS ls hl hret
  have hl : lv_has ls 2 [(0, .ref h0), (1, .int (nI a))] := hl
  refine lv_iload_n hx hb dCod_isSealed_0 rfl (lv_at hl 1 rfl) ?_
  refine lv_iconst (v := 0) hx hb dCod_isSealed_1 (by decide) ?_
  refine XM.callSi (As := [.int (nI a), .int 0]) (rest := []) (wr := [(h0, .inr (1, [.ref h1, .ref h2, .ref h3])), (h1, .inl (kI, 3840, .inl cw)), (h2, .inl (kI, 24, .inl (fun j => nI (ln j)))), (h3, .inl (kZ, 24, .inl (fun j => x_b (z j))))]) stX_ok ⟨hx, hb, hml, hown, hts⟩ (kCod_isPlace l dC dI kI kJ kZ a 0 (by first | assumption | omega) (by first | assumption | omega)) (va_cwS 2 hts (x_gS gw385 gw386 gw37 gw387) rfl rfl rfl (by decide +kernel) ⟨Nat.le_of_ble_eq_true rfl, Nat.le_of_ble_eq_true rfl⟩) hK hP hD hS hA hX [] [0, 1, 2, 3] rfl rfl (by decide) (by decide) (by decide) rfl rfl hl.1 (Nat.le_of_ble_eq_true rfl) dCod_isSealed_2 ⟨Nat.le_of_ble_eq_true rfl, Nat.le_of_ble_eq_true rfl⟩ (fun r_2 u_1 H locs hw hP hD hS => ?_)
  obtain rfl := hw
  have hP : va_P (dC, dI) xCl [(h0, .inr (1, [.ref h1, .ref h2, .ref h3])), (h1, .inl (kI, 3840, .inl cw)), (h2, .inl (kI, 24, .inl (fun j => nI (ln j)))), (h3, .inl (kZ, 24, .inl (fun j => x_b (z j))))] H := hP
  have hD : va_D A [(h0, .inr (1, [.ref h1, .ref h2, .ref h3])), (h1, .inl (kI, 3840, .inl cw)), (h2, .inl (kI, 24, .inl (fun j => nI (ln j)))), (h3, .inl (kZ, 24, .inl (fun j => x_b (z j))))] := hD
  refine lv_if_eq (tgt := 21) hx hb dCod_isSealed_5 (by decide) (fun c5 => ?_) (fun c5 => ?_)
  · have c5 : ¬ (0 < 160) := x_i10.mp c5
    exfalso; exact absurd c5 (by decide)
  · have c5 : (0 < 160) := Classical.not_not.mp (fun z => c5 (x_i10.mpr z))
    refine lv_aload_n hx hb dCod_isSealed_8 rfl (lv_at hl 0 rfl) ?_
    refine va_get (D := (dC, dI)) (ci := 1) (v := .ref h3) (C := RCod) (T := TCod) (N := 3) hx hb hts (fun w h => List.mem_cons_of_mem _ (layCod w h)) hown hK hP 0 rfl rfl 2 (by decide) (hts (.fieldLink RCod 18 "CallLedger$Codes" "sealedOnes" "[Z") (List.mem_cons_of_mem _ gw67)) (fun _ h9 => h9) rfl dCod_isSealed_9 ?_
    refine lv_iload_n hx hb dCod_isSealed_12 rfl (lv_at hl 1 rfl) ?_
    refine x_zald (j := a) hx hb hK hP 3 2 rfl rfl rfl (by omega) (by omega) dCod_isSealed_13 ?_
    refine lv_if_eq (tgt := 21) hx hb dCod_isSealed_14 (by decide) (fun c14 => ?_) (fun c14 => ?_)
    · have c14 : (z a) = false := x_b0.mp c14
      refine lv_iconst (v := 0) hx hb dCod_isSealed_21 (by decide) ?_
      exact hret 0 (())  (rfl) _ _ _ (by rw [c14]; rfl) (hP.sub [0, 1, 2, 3] rfl) (hD.sub [0, 1, 2, 3] (by decide) rfl) hS dCod_isSealed_22
    · have c14 : (z a) = true := Bool.of_not_eq_false (fun z => c14 (x_b0.mpr z))
      refine lv_iconst (v := 1) hx hb dCod_isSealed_17 (by decide) ?_
      refine lv_goto (tgt := 22) hx hb dCod_isSealed_18 (by decide) ?_
      exact hret 1 (())  (rfl) _ _ _ (by rw [c14]; rfl) (hP.sub [0, 1, 2, 3] rfl) (hD.sub [0, 1, 2, 3] (by decide) rfl) hS dCod_isSealed_22

set_option maxHeartbeats 4000000 in
set_option maxRecDepth 100000 in
theorem kCod_wordAt (l : Launch) (dC : Nat → ClassId) (dI : Nat → Nat → Nat) (kI kJ kZ : ClassId) (h0 : Nat) (h1 : Nat) (h2 : Nat) (h3 : Nat) (cw : Nat → Int32) (ln : Nat → Nat) (z : Nat → Bool) (a : Nat) (k : Nat) (ha : a < 24) (hk : k < 160) :
    XM stX l yCod_wordAt wCod_wordAt { frames := 1, cells := 0, slots := 0, locals := 21 } (dC, dI) xCl (x_T kI kJ kZ) [(h0, .inr (1, [.ref h1, .ref h2, .ref h3])), (h1, .inl (kI, 3840, .inl cw)), (h2, .inl (kI, 24, .inl (fun j => nI (ln j)))), (h3, .inl (kZ, 24, .inl (fun j => x_b (z j))))] [.ref h0, .int (nI a), .int (nI k)] 0 0 x_eI (fun (r : Int32) (u : Unit) => r = cw (a * 160 + k)) (fun (u : Unit) => [(h0, .inr (1, [.ref h1, .ref h2, .ref h3])), (h1, .inl (kI, 3840, .inl cw)), (h2, .inl (kI, 24, .inl (fun j => nI (ln j)))), (h3, .inl (kZ, 24, .inl (fun j => x_b (z j))))]) := by
  refine XM.ofI (cc := cCod_wordAt) (maxL := 3) (by decide) rfl (Nat.le_of_ble_eq_true rfl) ?_
  intro p e s m below meth c A Q hx hb hr hml hown hts hlocks hin hA hK hP hD hX hS ls hl hret
  have hl : lv_has ls 3 [(0, .ref h0), (1, .int (nI a)), (2, .int (nI k))] := hl
  refine lv_iload_n hx hb dCod_wordAt_0 rfl (lv_at hl 1 rfl) ?_
  refine lv_iload_n hx hb dCod_wordAt_1 rfl (lv_at hl 2 rfl) ?_
  refine XM.callSi (As := [.int (nI a), .int (nI k)]) (rest := []) (wr := [(h0, .inr (1, [.ref h1, .ref h2, .ref h3])), (h1, .inl (kI, 3840, .inl cw)), (h2, .inl (kI, 24, .inl (fun j => nI (ln j)))), (h3, .inl (kZ, 24, .inl (fun j => x_b (z j))))]) stX_ok ⟨hx, hb, hml, hown, hts⟩ (kCod_isPlace l dC dI kI kJ kZ a k (by first | assumption | omega) (by first | assumption | omega)) (va_cwS 2 hts (x_gS gw385 gw386 gw37 gw387) rfl rfl rfl (by decide +kernel) ⟨Nat.le_of_ble_eq_true rfl, Nat.le_of_ble_eq_true rfl⟩) hK hP hD hS hA hX [] [0, 1, 2, 3] rfl rfl (by decide) (by decide) (by decide) rfl rfl hl.1 (Nat.le_of_ble_eq_true rfl) dCod_wordAt_2 ⟨Nat.le_of_ble_eq_true rfl, Nat.le_of_ble_eq_true rfl⟩ (fun r_2 u_1 H locs hw hP hD hS => ?_)
  obtain rfl := hw
  have hP : va_P (dC, dI) xCl [(h0, .inr (1, [.ref h1, .ref h2, .ref h3])), (h1, .inl (kI, 3840, .inl cw)), (h2, .inl (kI, 24, .inl (fun j => nI (ln j)))), (h3, .inl (kZ, 24, .inl (fun j => x_b (z j))))] H := hP
  have hD : va_D A [(h0, .inr (1, [.ref h1, .ref h2, .ref h3])), (h1, .inl (kI, 3840, .inl cw)), (h2, .inl (kI, 24, .inl (fun j => nI (ln j)))), (h3, .inl (kZ, 24, .inl (fun j => x_b (z j))))] := hD
  refine lv_if_eq (tgt := 23) hx hb dCod_wordAt_5 (by decide) (fun c5 => ?_) (fun c5 => ?_)
  · have c5 : ¬ (k < 160) := x_i10.mp c5
    exfalso; omega
  · have c5 : (k < 160) := Classical.not_not.mp (fun z => c5 (x_i10.mpr z))
    refine lv_aload_n hx hb dCod_wordAt_8 rfl (lv_at hl 0 rfl) ?_
    refine va_get (D := (dC, dI)) (ci := 1) (v := .ref h1) (C := RCod) (T := TCod) (N := 3) hx hb hts (fun w h => List.mem_cons_of_mem _ (layCod w h)) hown hK hP 0 rfl rfl 0 (by decide) (hts (.fieldLink RCod 9 "CallLedger$Codes" "words" "[I") (List.mem_cons_of_mem _ gw65)) (fun _ h9 => h9) rfl dCod_wordAt_9 ?_
    refine lv_iload_n hx hb dCod_wordAt_12 rfl (lv_at hl 1 rfl) ?_
    refine lv_sipush (v := 160) hx hb dCod_wordAt_13 (by decide) ?_
    refine lv_imul hx hb dCod_wordAt_16 ?_
    refine lv_iload_n hx hb dCod_wordAt_17 rfl (lv_at hl 2 rfl) ?_
    refine lv_iadd hx hb dCod_wordAt_18 ?_
    refine x_topi (y := nI (a * 160 + k)) (x_160) ?_
    refine x_iald (j := a * 160 + k) hx hb hK hP 1 0 rfl rfl rfl (by omega) (by omega) dCod_wordAt_19 ?_
    refine lv_goto (tgt := 24) hx hb dCod_wordAt_20 (by decide) ?_
    exact hret (cw (a * 160 + k)) (()) _ _ _ (rfl) (hP.sub [0, 1, 2, 3] rfl) (hD.sub [0, 1, 2, 3] (by decide) rfl) hS dCod_wordAt_24

set_option maxHeartbeats 4000000 in
set_option maxRecDepth 100000 in
theorem kCod_lengthToRun (l : Launch) (dC : Nat → ClassId) (dI : Nat → Nat → Nat) (kI kJ kZ : ClassId) (h0 : Nat) (h1 : Nat) (h2 : Nat) (h3 : Nat) (cw : Nat → Int32) (ln : Nat → Nat) (z : Nat → Bool) (a : Nat) (ha : a < 24) :
    XM stX l yCod_lengthToRun wCod_lengthToRun { frames := 2, cells := 0, slots := 0, locals := 42 } (dC, dI) xCl (x_T kI kJ kZ) [(h0, .inr (1, [.ref h1, .ref h2, .ref h3])), (h1, .inl (kI, 3840, .inl cw)), (h2, .inl (kI, 24, .inl (fun j => nI (ln j)))), (h3, .inl (kZ, 24, .inl (fun j => x_b (z j))))] [.ref h0, .int (nI a)] 0 0 x_eI (fun (r : Int32) (u : Unit) => r = nI (if z a = true then ln a else 0)) (fun (u : Unit) => [(h0, .inr (1, [.ref h1, .ref h2, .ref h3])), (h1, .inl (kI, 3840, .inl cw)), (h2, .inl (kI, 24, .inl (fun j => nI (ln j)))), (h3, .inl (kZ, 24, .inl (fun j => x_b (z j))))]) := by
  refine XM.ofI (cc := cCod_lengthToRun) (maxL := 2) (by decide) rfl (Nat.le_of_ble_eq_true rfl) ?_
  intro p e s m below meth c A Q hx hb hr hml hown hts hlocks hin hA hK hP hD hX hS ls hl hret
  have hl : lv_has ls 2 [(0, .ref h0), (1, .int (nI a))] := hl
  refine lv_aload_n hx hb dCod_lengthToRun_0 rfl (lv_at hl 0 rfl) ?_
  refine lv_iload_n hx hb dCod_lengthToRun_1 rfl (lv_at hl 1 rfl) ?_
  refine XM.callVi (As := [.int (nI a)]) (rest := []) (wr := []) stX_ok ⟨hx, hb, hml, hown, hts⟩ (kCod_isSealed l dC dI kI kJ kZ h0 h1 h2 h3 cw ln z a (by first | assumption | omega)) (cwV 1 hts (x_gV gw492 gw382 gw383 gw37 gw384) rfl rfl rfl (by decide +kernel) ⟨Nat.le_of_ble_eq_true rfl, Nat.le_of_ble_eq_true rfl⟩) hK hP hD hS hA hX [0, 1, 2, 3] [] rfl rfl (by decide) (by decide) (by decide) rfl rfl rfl rfl hl.1 (Nat.le_of_ble_eq_true rfl) dCod_lengthToRun_2 ⟨Nat.le_of_ble_eq_true rfl, Nat.le_of_ble_eq_true rfl⟩ (fun r_2 u_1 H locs hw hP hD hS => ?_)
  obtain rfl := hw
  have hP : va_P (dC, dI) xCl [(h0, .inr (1, [.ref h1, .ref h2, .ref h3])), (h1, .inl (kI, 3840, .inl cw)), (h2, .inl (kI, 24, .inl (fun j => nI (ln j)))), (h3, .inl (kZ, 24, .inl (fun j => x_b (z j))))] H := hP
  have hD : va_D A [(h0, .inr (1, [.ref h1, .ref h2, .ref h3])), (h1, .inl (kI, 3840, .inl cw)), (h2, .inl (kI, 24, .inl (fun j => nI (ln j)))), (h3, .inl (kZ, 24, .inl (fun j => x_b (z j))))] := hD
  refine lv_if_eq (tgt := 17) hx hb dCod_lengthToRun_5 (by decide) (fun c5 => ?_) (fun c5 => ?_)
  · have c5 : (z a) = false := x_b0.mp c5
    refine lv_iconst (v := 0) hx hb dCod_lengthToRun_17 (by decide) ?_
    exact hret 0 (()) _ _ _ (by rw [c5]; rfl) (hP.sub [0, 1, 2, 3] rfl) (hD.sub [0, 1, 2, 3] (by decide) rfl) hS dCod_lengthToRun_18
  · have c5 : (z a) = true := Bool.of_not_eq_false (fun z => c5 (x_b0.mpr z))
    refine lv_aload_n hx hb dCod_lengthToRun_8 rfl (lv_at hl 0 rfl) ?_
    refine va_get (D := (dC, dI)) (ci := 1) (v := .ref h2) (C := RCod) (T := TCod) (N := 3) hx hb hts (fun w h => List.mem_cons_of_mem _ (layCod w h)) hown hK hP 0 rfl rfl 1 (by decide) (hts (.fieldLink RCod 15 "CallLedger$Codes" "lengths" "[I") (List.mem_cons_of_mem _ gw66)) (fun _ h9 => h9) rfl dCod_lengthToRun_9 ?_
    refine lv_iload_n hx hb dCod_lengthToRun_12 rfl (lv_at hl 1 rfl) ?_
    refine x_iald (j := a) hx hb hK hP 2 0 rfl rfl rfl (by omega) (by omega) dCod_lengthToRun_13 ?_
    refine lv_goto (tgt := 18) hx hb dCod_lengthToRun_14 (by decide) ?_
    exact hret (nI (ln a)) (()) _ _ _ (by rw [c5]; rfl) (hP.sub [0, 1, 2, 3] rfl) (hD.sub [0, 1, 2, 3] (by decide) rfl) hS dCod_lengthToRun_18

set_option maxHeartbeats 4000000 in
set_option maxRecDepth 100000 in
theorem kCod_append (l : Launch) (dC : Nat → ClassId) (dI : Nat → Nat → Nat) (kI kJ kZ : ClassId) (h0 : Nat) (h1 : Nat) (h2 : Nat) (h3 : Nat) (cw : Nat → Int32) (ln : Nat → Nat) (z : Nat → Bool) (a : Nat) (w : Int32) (ha : a < 24) (hln : ∀ j, j < 24 → ln j ≤ 160) :
    XM stX l yCod_append wCod_append { frames := 1, cells := 0, slots := 0, locals := 21 } (dC, dI) xCl (x_T kI kJ kZ) [(h0, .inr (1, [.ref h1, .ref h2, .ref h3])), (h1, .inl (kI, 3840, .inl cw)), (h2, .inl (kI, 24, .inl (fun j => nI (ln j)))), (h3, .inl (kZ, 24, .inl (fun j => x_b (z j))))] [.ref h0, .int (nI a), .int w] 0 0 x_eI (fun (r : Int32) (u : (Nat → Int32) × (Nat → Nat)) => (r = if ln a < 160 then nI (ln a + 1) else -1) ∧ (u.1 = if ln a < 160 then upd cw (a * 160 + ln a) w else cw) ∧ (u.2 = if ln a < 160 then va_up ln a (ln a + 1) else ln)) (fun (u : (Nat → Int32) × (Nat → Nat)) => [(h0, .inr (1, [.ref h1, .ref h2, .ref h3])), (h1, .inl (kI, 3840, .inl u.1)), (h2, .inl (kI, 24, .inl (fun j => nI (u.2 j)))), (h3, .inl (kZ, 24, .inl (fun j => x_b (z j))))]) := by
  refine XM.ofI (cc := cCod_append) (maxL := 3) (by decide) rfl (Nat.le_of_ble_eq_true rfl) ?_
  intro p e s m below meth c A Q hx hb hr hml hown hts hlocks hin hA hK hP hD hX hS ls hl hret
  have hl : lv_has ls 3 [(0, .ref h0), (1, .int (nI a)), (2, .int w)] := hl
  have hla := hln a ha
  refine lv_iload_n hx hb dCod_append_0 rfl (lv_at hl 1 rfl) ?_
  refine lv_iconst (v := 0) hx hb dCod_append_1 (by decide) ?_
  refine XM.callSi (As := [.int (nI a), .int 0]) (rest := []) (wr := [(h0, .inr (1, [.ref h1, .ref h2, .ref h3])), (h1, .inl (kI, 3840, .inl cw)), (h2, .inl (kI, 24, .inl (fun j => nI (ln j)))), (h3, .inl (kZ, 24, .inl (fun j => x_b (z j))))]) stX_ok ⟨hx, hb, hml, hown, hts⟩ (kCod_isPlace l dC dI kI kJ kZ a 0 (by first | assumption | omega) (by first | assumption | omega)) (va_cwS 2 hts (x_gS gw385 gw386 gw37 gw387) rfl rfl rfl (by decide +kernel) ⟨Nat.le_of_ble_eq_true rfl, Nat.le_of_ble_eq_true rfl⟩) hK hP hD hS hA hX [] [0, 1, 2, 3] rfl rfl (by decide) (by decide) (by decide) rfl rfl hl.1 (Nat.le_of_ble_eq_true rfl) dCod_append_2 ⟨Nat.le_of_ble_eq_true rfl, Nat.le_of_ble_eq_true rfl⟩ (fun r_2 u_1 H locs hw hP hD hS => ?_)
  obtain rfl := hw
  have hP : va_P (dC, dI) xCl [(h0, .inr (1, [.ref h1, .ref h2, .ref h3])), (h1, .inl (kI, 3840, .inl cw)), (h2, .inl (kI, 24, .inl (fun j => nI (ln j)))), (h3, .inl (kZ, 24, .inl (fun j => x_b (z j))))] H := hP
  have hD : va_D A [(h0, .inr (1, [.ref h1, .ref h2, .ref h3])), (h1, .inl (kI, 3840, .inl cw)), (h2, .inl (kI, 24, .inl (fun j => nI (ln j)))), (h3, .inl (kZ, 24, .inl (fun j => x_b (z j))))] := hD
  refine lv_if_eq (tgt := 21) hx hb dCod_append_5 (by decide) (fun c5 => ?_) (fun c5 => ?_)
  · have c5 : ¬ (0 < 160) := x_i10.mp c5
    exfalso; exact absurd c5 (by decide)
  · have c5 : (0 < 160) := Classical.not_not.mp (fun z => c5 (x_i10.mpr z))
    refine lv_iload_n hx hb dCod_append_8 rfl (lv_at hl 1 rfl) ?_
    refine lv_aload_n hx hb dCod_append_9 rfl (lv_at hl 0 rfl) ?_
    refine va_get (D := (dC, dI)) (ci := 1) (v := .ref h2) (C := RCod) (T := TCod) (N := 3) hx hb hts (fun w h => List.mem_cons_of_mem _ (layCod w h)) hown hK hP 0 rfl rfl 1 (by decide) (hts (.fieldLink RCod 15 "CallLedger$Codes" "lengths" "[I") (List.mem_cons_of_mem _ gw66)) (fun _ h9 => h9) rfl dCod_append_10 ?_
    refine lv_iload_n hx hb dCod_append_13 rfl (lv_at hl 1 rfl) ?_
    refine x_iald (j := a) hx hb hK hP 2 0 rfl rfl rfl (by omega) (by omega) dCod_append_14 ?_
    refine XM.callSi (As := [.int (nI a), .int (nI (ln a))]) (rest := []) (wr := [(h0, .inr (1, [.ref h1, .ref h2, .ref h3])), (h1, .inl (kI, 3840, .inl cw)), (h2, .inl (kI, 24, .inl (fun j => nI (ln j)))), (h3, .inl (kZ, 24, .inl (fun j => x_b (z j))))]) stX_ok ⟨hx, hb, hml, hown, hts⟩ (kCod_isPlace l dC dI kI kJ kZ a (ln a) (by first | assumption | omega) (by first | assumption | omega)) (va_cwS 2 hts (x_gS gw385 gw386 gw37 gw387) rfl rfl rfl (by decide +kernel) ⟨Nat.le_of_ble_eq_true rfl, Nat.le_of_ble_eq_true rfl⟩) hK hP hD hS hA hX [] [0, 1, 2, 3] rfl rfl (by decide) (by decide) (by decide) rfl rfl hl.1 (Nat.le_of_ble_eq_true rfl) dCod_append_15 ⟨Nat.le_of_ble_eq_true rfl, Nat.le_of_ble_eq_true rfl⟩ (fun r_4 u_3 H locs hw hP hD hS => ?_)
    obtain rfl := hw
    have hP : va_P (dC, dI) xCl [(h0, .inr (1, [.ref h1, .ref h2, .ref h3])), (h1, .inl (kI, 3840, .inl cw)), (h2, .inl (kI, 24, .inl (fun j => nI (ln j)))), (h3, .inl (kZ, 24, .inl (fun j => x_b (z j))))] H := hP
    have hD : va_D A [(h0, .inr (1, [.ref h1, .ref h2, .ref h3])), (h1, .inl (kI, 3840, .inl cw)), (h2, .inl (kI, 24, .inl (fun j => nI (ln j)))), (h3, .inl (kZ, 24, .inl (fun j => x_b (z j))))] := hD
    refine lv_if_ne (tgt := 23) hx hb dCod_append_18 (by decide) (fun c18 => ?_) (fun c18 => ?_)
    · have c18 : ((ln a) < 160) := Classical.not_not.mp (fun z => c18 (x_i10.mpr z))
      refine lv_aload_n hx hb dCod_append_23 rfl (lv_at hl 0 rfl) ?_
      refine va_get (D := (dC, dI)) (ci := 1) (v := .ref h1) (C := RCod) (T := TCod) (N := 3) hx hb hts (fun w h => List.mem_cons_of_mem _ (layCod w h)) hown hK hP 0 rfl rfl 0 (by decide) (hts (.fieldLink RCod 9 "CallLedger$Codes" "words" "[I") (List.mem_cons_of_mem _ gw65)) (fun _ h9 => h9) rfl dCod_append_24 ?_
      refine lv_iload_n hx hb dCod_append_27 rfl (lv_at hl 1 rfl) ?_
      refine lv_sipush (v := 160) hx hb dCod_append_28 (by decide) ?_
      refine lv_imul hx hb dCod_append_31 ?_
      refine lv_aload_n hx hb dCod_append_32 rfl (lv_at hl 0 rfl) ?_
      refine va_get (D := (dC, dI)) (ci := 1) (v := .ref h2) (C := RCod) (T := TCod) (N := 3) hx hb hts (fun w h => List.mem_cons_of_mem _ (layCod w h)) hown hK hP 0 rfl rfl 1 (by decide) (hts (.fieldLink RCod 15 "CallLedger$Codes" "lengths" "[I") (List.mem_cons_of_mem _ gw66)) (fun _ h9 => h9) rfl dCod_append_33 ?_
      refine lv_iload_n hx hb dCod_append_36 rfl (lv_at hl 1 rfl) ?_
      refine x_iald (j := a) hx hb hK hP 2 0 rfl rfl rfl (by omega) (by omega) dCod_append_37 ?_
      refine lv_iadd hx hb dCod_append_38 ?_
      refine x_topi (y := nI (a * 160 + ln a)) (x_160) ?_
      refine lv_iload_n hx hb dCod_append_39 rfl (lv_at hl 2 rfl) ?_
      refine x_iast (j := a * 160 + ln a) hx hb hK hP hD hS 1 0 rfl rfl rfl (by omega) (by omega) dCod_append_40 (fun H locs hP hD hS => ?_)
      have hP : va_P (dC, dI) xCl [(h0, .inr (1, [.ref h1, .ref h2, .ref h3])), (h1, .inl (kI, 3840, .inl (upd cw (a * 160 + ln a) w))), (h2, .inl (kI, 24, .inl (fun j => nI (ln j)))), (h3, .inl (kZ, 24, .inl (fun j => x_b (z j))))] H := hP
      have hD : va_D A [(h0, .inr (1, [.ref h1, .ref h2, .ref h3])), (h1, .inl (kI, 3840, .inl (upd cw (a * 160 + ln a) w))), (h2, .inl (kI, 24, .inl (fun j => nI (ln j)))), (h3, .inl (kZ, 24, .inl (fun j => x_b (z j))))] := hD
      refine lv_aload_n hx hb dCod_append_41 rfl (lv_at hl 0 rfl) ?_
      refine va_get (D := (dC, dI)) (ci := 1) (v := .ref h2) (C := RCod) (T := TCod) (N := 3) hx hb hts (fun w h => List.mem_cons_of_mem _ (layCod w h)) hown hK hP 0 rfl rfl 1 (by decide) (hts (.fieldLink RCod 15 "CallLedger$Codes" "lengths" "[I") (List.mem_cons_of_mem _ gw66)) (fun _ h9 => h9) rfl dCod_append_42 ?_
      refine lv_iload_n hx hb dCod_append_45 rfl (lv_at hl 1 rfl) ?_
      refine lv_dup2_11 hx hb dCod_append_46 rfl rfl ?_
      refine x_iald (j := a) hx hb hK hP 2 0 rfl rfl rfl (by omega) (by omega) dCod_append_47 ?_
      refine lv_iconst (v := 1) hx hb dCod_append_48 (by decide) ?_
      refine lv_iadd hx hb dCod_append_49 ?_
      refine x_topi (y := nI (ln a + 1)) (nI_1 _) ?_
      refine x_iast (j := a) hx hb hK hP hD hS 2 0 rfl rfl rfl (by omega) (by omega) dCod_append_50 (fun H locs hP hD hS => ?_)
      have hP : va_P (dC, dI) xCl [(h0, .inr (1, [.ref h1, .ref h2, .ref h3])), (h1, .inl (kI, 3840, .inl (upd cw (a * 160 + ln a) w))), (h2, .inl (kI, 24, .inl (upd (fun j => nI (ln j)) a (nI (ln a + 1))))), (h3, .inl (kZ, 24, .inl (fun j => x_b (z j))))] H := hP
      have hD : va_D A [(h0, .inr (1, [.ref h1, .ref h2, .ref h3])), (h1, .inl (kI, 3840, .inl (upd cw (a * 160 + ln a) w))), (h2, .inl (kI, 24, .inl (upd (fun j => nI (ln j)) a (nI (ln a + 1))))), (h3, .inl (kZ, 24, .inl (fun j => x_b (z j))))] := hD
      rw [x_updL] at hP hD
      have hP : va_P (dC, dI) xCl [(h0, .inr (1, [.ref h1, .ref h2, .ref h3])), (h1, .inl (kI, 3840, .inl (upd cw (a * 160 + ln a) w))), (h2, .inl (kI, 24, .inl (fun j => nI (va_up ln a (ln a + 1) j)))), (h3, .inl (kZ, 24, .inl (fun j => x_b (z j))))] H := hP
      have hD : va_D A [(h0, .inr (1, [.ref h1, .ref h2, .ref h3])), (h1, .inl (kI, 3840, .inl (upd cw (a * 160 + ln a) w))), (h2, .inl (kI, 24, .inl (fun j => nI (va_up ln a (ln a + 1) j)))), (h3, .inl (kZ, 24, .inl (fun j => x_b (z j))))] := hD
      refine lv_aload_n hx hb dCod_append_51 rfl (lv_at hl 0 rfl) ?_
      refine va_get (D := (dC, dI)) (ci := 1) (v := .ref h2) (C := RCod) (T := TCod) (N := 3) hx hb hts (fun w h => List.mem_cons_of_mem _ (layCod w h)) hown hK hP 0 rfl rfl 1 (by decide) (hts (.fieldLink RCod 15 "CallLedger$Codes" "lengths" "[I") (List.mem_cons_of_mem _ gw66)) (fun _ h9 => h9) rfl dCod_append_52 ?_
      refine lv_iload_n hx hb dCod_append_55 rfl (lv_at hl 1 rfl) ?_
      refine x_iald (j := a) hx hb hK hP 2 0 rfl rfl rfl (by omega) (by omega) dCod_append_56 ?_
      refine x_topi (y := nI (ln a + 1)) (by show nI (va_up ln a (ln a + 1) a) = _; simp [va_up]) ?_
      exact hret (nI (ln a + 1)) ((upd cw (a * 160 + ln a) w, va_up ln a (ln a + 1))) _ _ _ (⟨by first | exact (if_pos ‹_›).symm | exact (if_neg ‹_›).symm, by first | exact (if_pos ‹_›).symm | exact (if_neg ‹_›).symm, by first | exact (if_pos ‹_›).symm | exact (if_neg ‹_›).symm⟩) (hP.sub [0, 1, 2, 3] rfl) (hD.sub [0, 1, 2, 3] (by decide) rfl) hS dCod_append_57
    · have c18 : ¬ ((ln a) < 160) := x_i10.mp c18
      refine lv_iconst (v := (-1)) hx hb dCod_append_21 (by decide) ?_
      exact hret (-1) ((cw, ln)) _ _ _ (⟨by first | exact (if_pos ‹_›).symm | exact (if_neg ‹_›).symm, by first | exact (if_pos ‹_›).symm | exact (if_neg ‹_›).symm, by first | exact (if_pos ‹_›).symm | exact (if_neg ‹_›).symm⟩) (hP.sub [0, 1, 2, 3] rfl) (hD.sub [0, 1, 2, 3] (by decide) rfl) hS dCod_append_22

