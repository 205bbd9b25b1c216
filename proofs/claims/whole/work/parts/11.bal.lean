theorem dBal_has_0 : decode cBal_has 0 = .ok (.iload_n 1, 1) := by decide +kernel
theorem dBal_has_1 : decode cBal_has 1 = .ok (.ifCond .lt 15, 3) := by decide +kernel
theorem dBal_has_4 : decode cBal_has 4 = .ok (.iload_n 1, 1) := by decide +kernel
theorem dBal_has_5 : decode cBal_has 5 = .ok (.aload_n 0, 1) := by decide +kernel
theorem dBal_has_6 : decode cBal_has 6 = .ok (.getfield 15, 3) := by decide +kernel
theorem dBal_has_9 : decode cBal_has 9 = .ok (.if_icmp .ge 7, 3) := by decide +kernel
theorem dBal_has_12 : decode cBal_has 12 = .ok (.iconst 1, 1) := by decide +kernel
theorem dBal_has_13 : decode cBal_has 13 = .ok (.goto 4, 3) := by decide +kernel
theorem dBal_has_16 : decode cBal_has 16 = .ok (.iconst 0, 1) := by decide +kernel
theorem dBal_has_17 : decode cBal_has 17 = .ok (.ireturn, 1) := by decide +kernel
theorem dBal_of_0 : decode cBal_of 0 = .ok (.aload_n 0, 1) := by decide +kernel
theorem dBal_of_1 : decode cBal_of 1 = .ok (.iload_n 1, 1) := by decide +kernel
theorem dBal_of_2 : decode cBal_of 2 = .ok (.invokevirtual 25, 3) := by decide +kernel
theorem dBal_of_5 : decode cBal_of 5 = .ok (.ifCond .eq 12, 3) := by decide +kernel
theorem dBal_of_8 : decode cBal_of 8 = .ok (.aload_n 0, 1) := by decide +kernel
theorem dBal_of_9 : decode cBal_of 9 = .ok (.getfield 9, 3) := by decide +kernel
theorem dBal_of_12 : decode cBal_of 12 = .ok (.iload_n 1, 1) := by decide +kernel
theorem dBal_of_13 : decode cBal_of 13 = .ok (.iaload, 1) := by decide +kernel
theorem dBal_of_14 : decode cBal_of 14 = .ok (.goto 4, 3) := by decide +kernel
theorem dBal_of_17 : decode cBal_of 17 = .ok (.iconst (-1), 1) := by decide +kernel
theorem dBal_of_18 : decode cBal_of 18 = .ok (.ireturn, 1) := by decide +kernel
theorem dBal_canMove_0 : decode cBal_canMove 0 = .ok (.aload_n 0, 1) := by decide +kernel
theorem dBal_canMove_1 : decode cBal_canMove 1 = .ok (.iload_n 1, 1) := by decide +kernel
theorem dBal_canMove_2 : decode cBal_canMove 2 = .ok (.invokevirtual 25, 3) := by decide +kernel
theorem dBal_canMove_5 : decode cBal_canMove 5 = .ok (.ifCond .eq 29, 3) := by decide +kernel
theorem dBal_canMove_8 : decode cBal_canMove 8 = .ok (.aload_n 0, 1) := by decide +kernel
theorem dBal_canMove_9 : decode cBal_canMove 9 = .ok (.iload_n 2, 1) := by decide +kernel
theorem dBal_canMove_10 : decode cBal_canMove 10 = .ok (.invokevirtual 25, 3) := by decide +kernel
theorem dBal_canMove_13 : decode cBal_canMove 13 = .ok (.ifCond .eq 21, 3) := by decide +kernel
theorem dBal_canMove_16 : decode cBal_canMove 16 = .ok (.iload_n 3, 1) := by decide +kernel
theorem dBal_canMove_17 : decode cBal_canMove 17 = .ok (.ifCond .lt 17, 3) := by decide +kernel
theorem dBal_canMove_20 : decode cBal_canMove 20 = .ok (.iload_n 3, 1) := by decide +kernel
theorem dBal_canMove_21 : decode cBal_canMove 21 = .ok (.aload_n 0, 1) := by decide +kernel
theorem dBal_canMove_22 : decode cBal_canMove 22 = .ok (.getfield 9, 3) := by decide +kernel
theorem dBal_canMove_25 : decode cBal_canMove 25 = .ok (.iload_n 1, 1) := by decide +kernel
theorem dBal_canMove_26 : decode cBal_canMove 26 = .ok (.iaload, 1) := by decide +kernel
theorem dBal_canMove_27 : decode cBal_canMove 27 = .ok (.if_icmp .gt 7, 3) := by decide +kernel
theorem dBal_canMove_30 : decode cBal_canMove 30 = .ok (.iconst 1, 1) := by decide +kernel
theorem dBal_canMove_31 : decode cBal_canMove 31 = .ok (.goto 4, 3) := by decide +kernel
theorem dBal_canMove_34 : decode cBal_canMove 34 = .ok (.iconst 0, 1) := by decide +kernel
theorem dBal_canMove_35 : decode cBal_canMove 35 = .ok (.ireturn, 1) := by decide +kernel
theorem dBal_move_0 : decode cBal_move 0 = .ok (.aload_n 0, 1) := by decide +kernel
theorem dBal_move_1 : decode cBal_move 1 = .ok (.iload_n 1, 1) := by decide +kernel
theorem dBal_move_2 : decode cBal_move 2 = .ok (.iload_n 2, 1) := by decide +kernel
theorem dBal_move_3 : decode cBal_move 3 = .ok (.iload_n 3, 1) := by decide +kernel
theorem dBal_move_4 : decode cBal_move 4 = .ok (.invokevirtual 29, 3) := by decide +kernel
theorem dBal_move_7 : decode cBal_move 7 = .ok (.ifCond .eq 23, 3) := by decide +kernel
theorem dBal_move_10 : decode cBal_move 10 = .ok (.aload_n 0, 1) := by decide +kernel
theorem dBal_move_11 : decode cBal_move 11 = .ok (.getfield 9, 3) := by decide +kernel
theorem dBal_move_14 : decode cBal_move 14 = .ok (.iload_n 1, 1) := by decide +kernel
theorem dBal_move_15 : decode cBal_move 15 = .ok (.dup2, 1) := by decide +kernel
theorem dBal_move_16 : decode cBal_move 16 = .ok (.iaload, 1) := by decide +kernel
theorem dBal_move_17 : decode cBal_move 17 = .ok (.iload_n 3, 1) := by decide +kernel
theorem dBal_move_18 : decode cBal_move 18 = .ok (.isub, 1) := by decide +kernel
theorem dBal_move_19 : decode cBal_move 19 = .ok (.iastore, 1) := by decide +kernel
theorem dBal_move_20 : decode cBal_move 20 = .ok (.aload_n 0, 1) := by decide +kernel
theorem dBal_move_21 : decode cBal_move 21 = .ok (.getfield 9, 3) := by decide +kernel
theorem dBal_move_24 : decode cBal_move 24 = .ok (.iload_n 2, 1) := by decide +kernel
theorem dBal_move_25 : decode cBal_move 25 = .ok (.dup2, 1) := by decide +kernel
theorem dBal_move_26 : decode cBal_move 26 = .ok (.iaload, 1) := by decide +kernel
theorem dBal_move_27 : decode cBal_move 27 = .ok (.iload_n 3, 1) := by decide +kernel
theorem dBal_move_28 : decode cBal_move 28 = .ok (.iadd, 1) := by decide +kernel
theorem dBal_move_29 : decode cBal_move 29 = .ok (.iastore, 1) := by decide +kernel
theorem dBal_move_30 : decode cBal_move 30 = .ok (.return_, 1) := by decide +kernel
theorem dBal_total_0 : decode cBal_total 0 = .ok (.iconst 0, 1) := by decide +kernel
theorem dBal_total_1 : decode cBal_total 1 = .ok (.istore_n 1, 1) := by decide +kernel
theorem dBal_total_2 : decode cBal_total 2 = .ok (.iconst 0, 1) := by decide +kernel
theorem dBal_total_3 : decode cBal_total 3 = .ok (.istore_n 2, 1) := by decide +kernel
theorem dBal_total_4 : decode cBal_total 4 = .ok (.iload_n 2, 1) := by decide +kernel
theorem dBal_total_5 : decode cBal_total 5 = .ok (.aload_n 0, 1) := by decide +kernel
theorem dBal_total_6 : decode cBal_total 6 = .ok (.getfield 15, 3) := by decide +kernel
theorem dBal_total_9 : decode cBal_total 9 = .ok (.if_icmp .ge 18, 3) := by decide +kernel
theorem dBal_total_12 : decode cBal_total 12 = .ok (.iload_n 1, 1) := by decide +kernel
theorem dBal_total_13 : decode cBal_total 13 = .ok (.aload_n 0, 1) := by decide +kernel
theorem dBal_total_14 : decode cBal_total 14 = .ok (.getfield 9, 3) := by decide +kernel
theorem dBal_total_17 : decode cBal_total 17 = .ok (.iload_n 2, 1) := by decide +kernel
theorem dBal_total_18 : decode cBal_total 18 = .ok (.iaload, 1) := by decide +kernel
theorem dBal_total_19 : decode cBal_total 19 = .ok (.iadd, 1) := by decide +kernel
theorem dBal_total_20 : decode cBal_total 20 = .ok (.istore_n 1, 1) := by decide +kernel
theorem dBal_total_21 : decode cBal_total 21 = .ok (.iinc 2 1, 3) := by decide +kernel
theorem dBal_total_24 : decode cBal_total 24 = .ok (.goto (-20), 3) := by decide +kernel
theorem dBal_total_27 : decode cBal_total 27 = .ok (.iload_n 1, 1) := by decide +kernel
theorem dBal_total_28 : decode cBal_total 28 = .ok (.ireturn, 1) := by decide +kernel
theorem dBal_add_0 : decode cBal_add 0 = .ok (.aload_n 0, 1) := by decide +kernel
theorem dBal_add_1 : decode cBal_add 1 = .ok (.getfield 15, 3) := by decide +kernel
theorem dBal_add_4 : decode cBal_add 4 = .ok (.bipush 24, 2) := by decide +kernel
theorem dBal_add_6 : decode cBal_add 6 = .ok (.if_icmp .ge 18, 3) := by decide +kernel
theorem dBal_add_9 : decode cBal_add 9 = .ok (.aload_n 0, 1) := by decide +kernel
theorem dBal_add_10 : decode cBal_add 10 = .ok (.invokevirtual 19, 3) := by decide +kernel
theorem dBal_add_13 : decode cBal_add 13 = .ok (.i2l, 1) := by decide +kernel
theorem dBal_add_14 : decode cBal_add 14 = .ok (.iload_n 1, 1) := by decide +kernel
theorem dBal_add_15 : decode cBal_add 15 = .ok (.i2l, 1) := by decide +kernel
theorem dBal_add_16 : decode cBal_add 16 = .ok (.ladd, 1) := by decide +kernel
theorem dBal_add_17 : decode cBal_add 17 = .ok (.ldc2_w 23, 3) := by decide +kernel
theorem dBal_add_20 : decode cBal_add 20 = .ok (.lcmp, 1) := by decide +kernel
theorem dBal_add_21 : decode cBal_add 21 = .ok (.ifCond .le 5, 3) := by decide +kernel
theorem dBal_add_24 : decode cBal_add 24 = .ok (.iconst (-1), 1) := by decide +kernel
theorem dBal_add_25 : decode cBal_add 25 = .ok (.ireturn, 1) := by decide +kernel
theorem dBal_add_26 : decode cBal_add 26 = .ok (.aload_n 0, 1) := by decide +kernel
theorem dBal_add_27 : decode cBal_add 27 = .ok (.getfield 9, 3) := by decide +kernel
theorem dBal_add_30 : decode cBal_add 30 = .ok (.aload_n 0, 1) := by decide +kernel
theorem dBal_add_31 : decode cBal_add 31 = .ok (.getfield 15, 3) := by decide +kernel
theorem dBal_add_34 : decode cBal_add 34 = .ok (.iload_n 1, 1) := by decide +kernel
theorem dBal_add_35 : decode cBal_add 35 = .ok (.iastore, 1) := by decide +kernel
theorem dBal_add_36 : decode cBal_add 36 = .ok (.aload_n 0, 1) := by decide +kernel
theorem dBal_add_37 : decode cBal_add 37 = .ok (.dup, 1) := by decide +kernel
theorem dBal_add_38 : decode cBal_add 38 = .ok (.getfield 15, 3) := by decide +kernel
theorem dBal_add_41 : decode cBal_add 41 = .ok (.iconst 1, 1) := by decide +kernel
theorem dBal_add_42 : decode cBal_add 42 = .ok (.iadd, 1) := by decide +kernel
theorem dBal_add_43 : decode cBal_add 43 = .ok (.putfield 15, 3) := by decide +kernel
theorem dBal_add_46 : decode cBal_add 46 = .ok (.aload_n 0, 1) := by decide +kernel
theorem dBal_add_47 : decode cBal_add 47 = .ok (.getfield 15, 3) := by decide +kernel
theorem dBal_add_50 : decode cBal_add 50 = .ok (.iconst 1, 1) := by decide +kernel
theorem dBal_add_51 : decode cBal_add 51 = .ok (.isub, 1) := by decide +kernel
theorem dBal_add_52 : decode cBal_add 52 = .ok (.ireturn, 1) := by decide +kernel
theorem dBal_copyTo_0 : decode cBal_copyTo 0 = .ok (.aload_n 0, 1) := by decide +kernel
theorem dBal_copyTo_1 : decode cBal_copyTo 1 = .ok (.getfield 9, 3) := by decide +kernel
theorem dBal_copyTo_4 : decode cBal_copyTo 4 = .ok (.iconst 0, 1) := by decide +kernel
theorem dBal_copyTo_5 : decode cBal_copyTo 5 = .ok (.aload_n 1, 1) := by decide +kernel
theorem dBal_copyTo_6 : decode cBal_copyTo 6 = .ok (.iconst 0, 1) := by decide +kernel
theorem dBal_copyTo_7 : decode cBal_copyTo 7 = .ok (.aload_n 0, 1) := by decide +kernel
theorem dBal_copyTo_8 : decode cBal_copyTo 8 = .ok (.getfield 15, 3) := by decide +kernel
theorem dBal_copyTo_11 : decode cBal_copyTo 11 = .ok (.aload_n 1, 1) := by decide +kernel
theorem dBal_copyTo_12 : decode cBal_copyTo 12 = .ok (.arraylength, 1) := by decide +kernel
theorem dBal_copyTo_13 : decode cBal_copyTo 13 = .ok (.invokestatic 33, 3) := by decide +kernel
theorem dBal_copyTo_16 : decode cBal_copyTo 16 = .ok (.invokestatic 39, 3) := by decide +kernel
theorem dBal_copyTo_19 : decode cBal_copyTo 19 = .ok (.return_, 1) := by decide +kernel
theorem dBal_copyFrom_0 : decode cBal_copyFrom 0 = .ok (.aload_n 1, 1) := by decide +kernel
theorem dBal_copyFrom_1 : decode cBal_copyFrom 1 = .ok (.iconst 0, 1) := by decide +kernel
theorem dBal_copyFrom_2 : decode cBal_copyFrom 2 = .ok (.aload_n 0, 1) := by decide +kernel
theorem dBal_copyFrom_3 : decode cBal_copyFrom 3 = .ok (.getfield 9, 3) := by decide +kernel
theorem dBal_copyFrom_6 : decode cBal_copyFrom 6 = .ok (.iconst 0, 1) := by decide +kernel
theorem dBal_copyFrom_7 : decode cBal_copyFrom 7 = .ok (.aload_n 0, 1) := by decide +kernel
theorem dBal_copyFrom_8 : decode cBal_copyFrom 8 = .ok (.getfield 15, 3) := by decide +kernel
theorem dBal_copyFrom_11 : decode cBal_copyFrom 11 = .ok (.aload_n 1, 1) := by decide +kernel
theorem dBal_copyFrom_12 : decode cBal_copyFrom 12 = .ok (.arraylength, 1) := by decide +kernel
theorem dBal_copyFrom_13 : decode cBal_copyFrom 13 = .ok (.invokestatic 33, 3) := by decide +kernel
theorem dBal_copyFrom_16 : decode cBal_copyFrom 16 = .ok (.invokestatic 39, 3) := by decide +kernel
theorem dBal_copyFrom_19 : decode cBal_copyFrom 19 = .ok (.return_, 1) := by decide +kernel
theorem gw38 : .initialized RBal ∈ xG := List.mem_filter.mpr ⟨List.mem_of_getElem? (i := 38) (by decide +kernel), by decide +kernel⟩
theorem gw41 : .initialized "java/lang/Math" ∈ xG := List.mem_filter.mpr ⟨List.mem_of_getElem? (i := 41) (by decide +kernel), by decide +kernel⟩
theorem gw50 : .initialized "java/lang/System" ∈ xG := List.mem_filter.mpr ⟨List.mem_of_getElem? (i := 50) (by decide +kernel), by decide +kernel⟩
theorem gw83 : .fieldLink RBal 9 "CallLedger$Balances" "amounts" "[I" ∈ xG := List.mem_filter.mpr ⟨List.mem_of_getElem? (i := 83) (by decide +kernel), by decide +kernel⟩
theorem gw84 : .fieldLink RBal 15 "CallLedger$Balances" "count" "I" ∈ xG := List.mem_filter.mpr ⟨List.mem_of_getElem? (i := 84) (by decide +kernel), by decide +kernel⟩
theorem gw259 : .instanceMethod yBal_total ∈ xG := List.mem_filter.mpr ⟨List.mem_of_getElem? (i := 259) (by decide +kernel), by decide +kernel⟩
theorem gw260 : .selects RBal yBal_total yBal_total ∈ xG := List.mem_filter.mpr ⟨List.mem_of_getElem? (i := 260) (by decide +kernel), by decide +kernel⟩
theorem gw261 : .code yBal_total cBal_total 3 (some .int) ∈ xG := List.mem_filter.mpr ⟨List.mem_of_getElem? (i := 261) (by decide +kernel), by decide +kernel⟩
theorem gw342 : .methodLink RBal 19 yBal_total ∈ xG := List.mem_filter.mpr ⟨List.mem_of_getElem? (i := 342) (by decide +kernel), by decide +kernel⟩
theorem gw358 : .instanceMethod yBal_has ∈ xG := List.mem_filter.mpr ⟨List.mem_of_getElem? (i := 358) (by decide +kernel), by decide +kernel⟩
theorem gw359 : .selects RBal yBal_has yBal_has ∈ xG := List.mem_filter.mpr ⟨List.mem_of_getElem? (i := 359) (by decide +kernel), by decide +kernel⟩
theorem gw360 : .code yBal_has cBal_has 2 (some .boolean) ∈ xG := List.mem_filter.mpr ⟨List.mem_of_getElem? (i := 360) (by decide +kernel), by decide +kernel⟩
theorem gw442 : .instanceMethod yBal_canMove ∈ xG := List.mem_filter.mpr ⟨List.mem_of_getElem? (i := 442) (by decide +kernel), by decide +kernel⟩
theorem gw443 : .selects RBal yBal_canMove yBal_canMove ∈ xG := List.mem_filter.mpr ⟨List.mem_of_getElem? (i := 443) (by decide +kernel), by decide +kernel⟩
theorem gw444 : .code yBal_canMove cBal_canMove 4 (some .boolean) ∈ xG := List.mem_filter.mpr ⟨List.mem_of_getElem? (i := 444) (by decide +kernel), by decide +kernel⟩
theorem gw445 : .methodLink RBal 25 yBal_has ∈ xG := List.mem_filter.mpr ⟨List.mem_of_getElem? (i := 445) (by decide +kernel), by decide +kernel⟩
theorem gw468 : .methodLink RBal 33 Lib.Math.min.name ∈ xG := List.mem_filter.mpr ⟨List.mem_of_getElem? (i := 468) (by decide +kernel), by decide +kernel⟩
theorem gw469 : .static Lib.Math.min.name ∈ xG := List.mem_filter.mpr ⟨List.mem_of_getElem? (i := 469) (by decide +kernel), by decide +kernel⟩
theorem gw470 : .code Lib.Math.min.name Lib.Math.min.code 2 (some .int) ∈ xG := List.mem_filter.mpr ⟨List.mem_of_getElem? (i := 470) (by decide +kernel), by decide +kernel⟩
theorem gw471 : .methodLink RBal 39 arraycopyName ∈ xG := List.mem_filter.mpr ⟨List.mem_of_getElem? (i := 471) (by decide +kernel), by decide +kernel⟩
theorem gw472 : .static arraycopyName ∈ xG := List.mem_filter.mpr ⟨List.mem_of_getElem? (i := 472) (by decide +kernel), by decide +kernel⟩
theorem gw473 : .native arraycopyName ∈ xG := List.mem_filter.mpr ⟨List.mem_of_getElem? (i := 473) (by decide +kernel), by decide +kernel⟩
theorem gw483 : .methodLink RBal 29 yBal_canMove ∈ xG := List.mem_filter.mpr ⟨List.mem_of_getElem? (i := 483) (by decide +kernel), by decide +kernel⟩
set_option maxHeartbeats 4000000 in
set_option maxRecDepth 100000 in
theorem kBal_has (l : Launch) (dC : Nat → ClassId) (dI : Nat → Nat → Nat) (kI kJ kZ : ClassId) (h0 : Nat) (h1 : Nat) (n : Nat) (x : Int32) (hn : n ≤ 24) :
    XM stX l yBal_has wBal_has { frames := 0, cells := 0, slots := 0, locals := 0 } (dC, dI) xCl (x_T kI kJ kZ) [(h0, .inr (0, [.ref h1, .int (nI n)]))] [.ref h0, .int x] 0 0 x_eI (fun (r : Int32) (u : Unit) => r = if xHas n x = true then 1 else 0) (fun (u : Unit) => [(h0, .inr (0, [.ref h1, .int (nI n)]))]) := by
  refine XM.ofZ (cc := cBal_has) (maxL := 2) (by decide) rfl (Nat.le_of_ble_eq_true rfl) ?_
  intro p e s m below meth c A Q hx hb hr hml hown hts hlocks hin hA hK hP hD hX hS ls hl hret
  have hl : lv_has ls 2 [(0, .ref h0), (1, .int x)] := hl
  refine lv_iload_n hx hb dBal_has_0 rfl (lv_at hl 1 rfl) ?_
  refine lv_if_lt (tgt := 16) hx hb dBal_has_1 (by decide) (fun c1 => ?_) (fun c1 => ?_)
  · refine lv_iconst (v := 0) hx hb dBal_has_16 (by decide) ?_
    exact hret 0 (())  (rfl) _ _ _ (by first | (rw [if_pos (xHas_t c1 c9)]; done) | (rw [xHas_f1 c1]; rfl) | (rw [xHas_f2 c9]; rfl)) (hP.sub [0] rfl) (hD.sub [0] (by decide) rfl) hS dBal_has_17
  · refine lv_iload_n hx hb dBal_has_4 rfl (lv_at hl 1 rfl) ?_
    refine lv_aload_n hx hb dBal_has_5 rfl (lv_at hl 0 rfl) ?_
    refine va_get (D := (dC, dI)) (ci := 0) (v := .int (nI n)) (C := RBal) (T := TBal) (N := 2) hx hb hts (fun w h => List.mem_cons_of_mem _ (layBal w h)) hown hK hP 0 rfl rfl 1 (by decide) (hts (.fieldLink RBal 15 "CallLedger$Balances" "count" "I") (List.mem_cons_of_mem _ gw84)) (fun _ h9 => h9) rfl dBal_has_6 ?_
    refine lv_icmp_ge (tgt := 16) hx hb dBal_has_9 (by decide) (fun c9 => ?_) (fun c9 => ?_)
    · refine lv_iconst (v := 0) hx hb dBal_has_16 (by decide) ?_
      exact hret 0 (())  (rfl) _ _ _ (by first | (rw [if_pos (xHas_t c1 c9)]; done) | (rw [xHas_f1 c1]; rfl) | (rw [xHas_f2 c9]; rfl)) (hP.sub [0] rfl) (hD.sub [0] (by decide) rfl) hS dBal_has_17
    · refine lv_iconst (v := 1) hx hb dBal_has_12 (by decide) ?_
      refine lv_goto (tgt := 17) hx hb dBal_has_13 (by decide) ?_
      exact hret 1 (())  (rfl) _ _ _ (by first | (rw [if_pos (xHas_t c1 c9)]; done) | (rw [xHas_f1 c1]; rfl) | (rw [xHas_f2 c9]; rfl)) (hP.sub [0] rfl) (hD.sub [0] (by decide) rfl) hS dBal_has_17

set_option maxHeartbeats 4000000 in
set_option maxRecDepth 100000 in
theorem kBal_of (l : Launch) (dC : Nat → ClassId) (dI : Nat → Nat → Nat) (kI kJ kZ : ClassId) (h0 : Nat) (h1 : Nat) (n : Nat) (f : Nat → Int32) (x : Int32) (hn : n ≤ 24) :
    XM stX l yBal_of wBal_of { frames := 1, cells := 0, slots := 0, locals := 21 } (dC, dI) xCl (x_T kI kJ kZ) [(h0, .inr (0, [.ref h1, .int (nI n)])), (h1, .inl (kI, 24, .inl f))] [.ref h0, .int x] 0 0 x_eI (fun (r : Int32) (u : Unit) => r = if xHas n x = true then f x.toNatClampNeg else -1) (fun (u : Unit) => [(h0, .inr (0, [.ref h1, .int (nI n)])), (h1, .inl (kI, 24, .inl f))]) := by
  refine XM.ofI (cc := cBal_of) (maxL := 2) (by decide) rfl (Nat.le_of_ble_eq_true rfl) ?_
  intro p e s m below meth c A Q hx hb hr hml hown hts hlocks hin hA hK hP hD hX hS ls hl hret
  have hl : lv_has ls 2 [(0, .ref h0), (1, .int x)] := hl
  refine lv_aload_n hx hb dBal_of_0 rfl (lv_at hl 0 rfl) ?_
  refine lv_iload_n hx hb dBal_of_1 rfl (lv_at hl 1 rfl) ?_
  refine XM.callVi (As := [.int x]) (rest := []) (wr := [(h1, .inl (kI, 24, .inl f))]) stX_ok ⟨hx, hb, hml, hown, hts⟩ (kBal_has l dC dI kI kJ kZ h0 h1 n x (by first | assumption | omega)) (cwV 1 hts (x_gV gw445 gw358 gw359 gw38 gw360) rfl rfl rfl (by decide +kernel) ⟨Nat.le_of_ble_eq_true rfl, Nat.le_of_ble_eq_true rfl⟩) hK hP hD hS hA hX [0] [1] rfl rfl (by decide) (by decide) (by decide) rfl rfl rfl rfl hl.1 (Nat.le_of_ble_eq_true rfl) dBal_of_2 ⟨Nat.le_of_ble_eq_true rfl, Nat.le_of_ble_eq_true rfl⟩ (fun r_2 u_1 H locs hw hP hD hS => ?_)
  obtain rfl := hw
  have hP : va_P (dC, dI) xCl [(h1, .inl (kI, 24, .inl f)), (h0, .inr (0, [.ref h1, .int (nI n)]))] H := hP
  have hD : va_D A [(h1, .inl (kI, 24, .inl f)), (h0, .inr (0, [.ref h1, .int (nI n)]))] := hD
  refine lv_if_eq (tgt := 17) hx hb dBal_of_5 (by decide) (fun c5 => ?_) (fun c5 => ?_)
  · have c5 : xHas n x = false := Bool.eq_false_iff.mpr (x_i10.mp c5)
    refine lv_iconst (v := (-1)) hx hb dBal_of_17 (by decide) ?_
    exact hret (-1) (()) _ _ _ (by rw [c5]; rfl) (hP.sub [1, 0] rfl) (hD.sub [1, 0] (by decide) rfl) hS dBal_of_18
  · have c5 : (xHas n x = true) := Classical.not_not.mp (fun z9 => c5 (x_i10.mpr z9))
    refine lv_aload_n hx hb dBal_of_8 rfl (lv_at hl 0 rfl) ?_
    refine va_get (D := (dC, dI)) (ci := 0) (v := .ref h1) (C := RBal) (T := TBal) (N := 2) hx hb hts (fun w h => List.mem_cons_of_mem _ (layBal w h)) hown hK hP 1 rfl rfl 0 (by decide) (hts (.fieldLink RBal 9 "CallLedger$Balances" "amounts" "[I") (List.mem_cons_of_mem _ gw83)) (fun _ h9 => h9) rfl dBal_of_9 ?_
    refine lv_iload_n hx hb dBal_of_12 rfl (lv_at hl 1 rfl) ?_
    refine x_iald (j := x.toNatClampNeg) hx hb hK hP 0 0 rfl rfl (xHas_ix c5 (by omega)).1 (Nat.lt_of_lt_of_le (xHas_ix c5 (by omega)).2 hn) (by omega) dBal_of_13 ?_
    refine lv_goto (tgt := 18) hx hb dBal_of_14 (by decide) ?_
    exact hret (f x.toNatClampNeg) (()) _ _ _ (by rw [c5]; rfl) (hP.sub [1, 0] rfl) (hD.sub [1, 0] (by decide) rfl) hS dBal_of_18

set_option maxHeartbeats 4000000 in
set_option maxRecDepth 100000 in
theorem kBal_canMove (l : Launch) (dC : Nat → ClassId) (dI : Nat → Nat → Nat) (kI kJ kZ : ClassId) (h0 : Nat) (h1 : Nat) (n : Nat) (f : Nat → Int32) (a : Nat) (x : Int32) (v : Int32) (hn : n ≤ 24) (ha : a < n) :
    XM stX l yBal_canMove wBal_canMove { frames := 1, cells := 0, slots := 0, locals := 21 } (dC, dI) xCl (x_T kI kJ kZ) [(h0, .inr (0, [.ref h1, .int (nI n)])), (h1, .inl (kI, 24, .inl f))] [.ref h0, .int (nI a), .int x, .int v] 0 0 x_eI (fun (r : Int32) (u : Unit) => r = if (xHas n x && !(decide (v < 0)) && !(decide (f a < v))) = true then 1 else 0) (fun (u : Unit) => [(h0, .inr (0, [.ref h1, .int (nI n)])), (h1, .inl (kI, 24, .inl f))]) := by
  refine XM.ofZ (cc := cBal_canMove) (maxL := 4) (by decide) rfl (Nat.le_of_ble_eq_true rfl) ?_
  intro p e s m below meth c A Q hx hb hr hml hown hts hlocks hin hA hK hP hD hX hS ls hl hret
  have hl : lv_has ls 4 [(0, .ref h0), (1, .int (nI a)), (2, .int x), (3, .int v)] := hl
  refine lv_aload_n hx hb dBal_canMove_0 rfl (lv_at hl 0 rfl) ?_
  refine lv_iload_n hx hb dBal_canMove_1 rfl (lv_at hl 1 rfl) ?_
  refine XM.callVi (As := [.int (nI a)]) (rest := []) (wr := [(h1, .inl (kI, 24, .inl f))]) stX_ok ⟨hx, hb, hml, hown, hts⟩ (kBal_has l dC dI kI kJ kZ h0 h1 n (nI a) (by first | assumption | omega)) (cwV 1 hts (x_gV gw445 gw358 gw359 gw38 gw360) rfl rfl rfl (by decide +kernel) ⟨Nat.le_of_ble_eq_true rfl, Nat.le_of_ble_eq_true rfl⟩) hK hP hD hS hA hX [0] [1] rfl rfl (by decide) (by decide) (by decide) rfl rfl rfl rfl hl.1 (Nat.le_of_ble_eq_true rfl) dBal_canMove_2 ⟨Nat.le_of_ble_eq_true rfl, Nat.le_of_ble_eq_true rfl⟩ (fun r_2 u_1 H locs hw hP hD hS => ?_)
  obtain rfl := hw
  have hP : va_P (dC, dI) xCl [(h1, .inl (kI, 24, .inl f)), (h0, .inr (0, [.ref h1, .int (nI n)]))] H := hP
  have hD : va_D A [(h1, .inl (kI, 24, .inl f)), (h0, .inr (0, [.ref h1, .int (nI n)]))] := hD
  refine lv_if_eq (tgt := 34) hx hb dBal_canMove_5 (by decide) (fun c5 => ?_) (fun c5 => ?_)
  · have c5 : xHas n (nI a) = false := Bool.eq_false_iff.mpr (x_i10.mp c5)
    exact absurd (xHas_nI ha (by omega)) (by rw [c5]; decide)
  · have c5 : (xHas n (nI a) = true) := Classical.not_not.mp (fun z9 => c5 (x_i10.mpr z9))
    refine lv_aload_n hx hb dBal_canMove_8 rfl (lv_at hl 0 rfl) ?_
    refine lv_iload_n hx hb dBal_canMove_9 rfl (lv_at hl 2 rfl) ?_
    refine XM.callVi (As := [.int x]) (rest := []) (wr := [(h1, .inl (kI, 24, .inl f))]) stX_ok ⟨hx, hb, hml, hown, hts⟩ (kBal_has l dC dI kI kJ kZ h0 h1 n x (by first | assumption | omega)) (cwV 1 hts (x_gV gw445 gw358 gw359 gw38 gw360) rfl rfl rfl (by decide +kernel) ⟨Nat.le_of_ble_eq_true rfl, Nat.le_of_ble_eq_true rfl⟩) hK hP hD hS hA hX [1] [0] rfl rfl (by decide) (by decide) (by decide) rfl rfl rfl rfl hl.1 (Nat.le_of_ble_eq_true rfl) dBal_canMove_10 ⟨Nat.le_of_ble_eq_true rfl, Nat.le_of_ble_eq_true rfl⟩ (fun r_4 u_3 H locs hw hP hD hS => ?_)
    obtain rfl := hw
    have hP : va_P (dC, dI) xCl [(h1, .inl (kI, 24, .inl f)), (h0, .inr (0, [.ref h1, .int (nI n)]))] H := hP
    have hD : va_D A [(h1, .inl (kI, 24, .inl f)), (h0, .inr (0, [.ref h1, .int (nI n)]))] := hD
    refine lv_if_eq (tgt := 34) hx hb dBal_canMove_13 (by decide) (fun c13 => ?_) (fun c13 => ?_)
    · have c13 : xHas n x = false := Bool.eq_false_iff.mpr (x_i10.mp c13)
      refine lv_iconst (v := 0) hx hb dBal_canMove_34 (by decide) ?_
      exact hret 0 (())  (rfl) _ _ _ (by first | (simp [c13, c17, c27]; done) | (simp [c13, c17]; done) | (simp [c13]; done)) (hP.sub [1, 0] rfl) (hD.sub [1, 0] (by decide) rfl) hS dBal_canMove_35
    · have c13 : (xHas n x = true) := Classical.not_not.mp (fun z9 => c13 (x_i10.mpr z9))
      refine lv_iload_n hx hb dBal_canMove_16 rfl (lv_at hl 3 rfl) ?_
      refine lv_if_lt (tgt := 34) hx hb dBal_canMove_17 (by decide) (fun c17 => ?_) (fun c17 => ?_)
      · refine lv_iconst (v := 0) hx hb dBal_canMove_34 (by decide) ?_
        exact hret 0 (())  (rfl) _ _ _ (by first | (simp [c13, c17, c27]; done) | (simp [c13, c17]; done) | (simp [c13]; done)) (hP.sub [1, 0] rfl) (hD.sub [1, 0] (by decide) rfl) hS dBal_canMove_35
      · refine lv_iload_n hx hb dBal_canMove_20 rfl (lv_at hl 3 rfl) ?_
        refine lv_aload_n hx hb dBal_canMove_21 rfl (lv_at hl 0 rfl) ?_
        refine va_get (D := (dC, dI)) (ci := 0) (v := .ref h1) (C := RBal) (T := TBal) (N := 2) hx hb hts (fun w h => List.mem_cons_of_mem _ (layBal w h)) hown hK hP 1 rfl rfl 0 (by decide) (hts (.fieldLink RBal 9 "CallLedger$Balances" "amounts" "[I") (List.mem_cons_of_mem _ gw83)) (fun _ h9 => h9) rfl dBal_canMove_22 ?_
        refine lv_iload_n hx hb dBal_canMove_25 rfl (lv_at hl 1 rfl) ?_
        refine x_iald (j := a) hx hb hK hP 0 0 rfl rfl rfl (by omega) (by omega) dBal_canMove_26 ?_
        refine lv_icmp_gt (tgt := 34) hx hb dBal_canMove_27 (by decide) (fun c27 => ?_) (fun c27 => ?_)
        · refine lv_iconst (v := 0) hx hb dBal_canMove_34 (by decide) ?_
          exact hret 0 (())  (rfl) _ _ _ (by first | (simp [c13, c17, c27]; done) | (simp [c13, c17]; done) | (simp [c13]; done)) (hP.sub [1, 0] rfl) (hD.sub [1, 0] (by decide) rfl) hS dBal_canMove_35
        · refine lv_iconst (v := 1) hx hb dBal_canMove_30 (by decide) ?_
          refine lv_goto (tgt := 35) hx hb dBal_canMove_31 (by decide) ?_
          exact hret 1 (())  (rfl) _ _ _ (by first | (simp [c13, c17, c27]; done) | (simp [c13, c17]; done) | (simp [c13]; done)) (hP.sub [1, 0] rfl) (hD.sub [1, 0] (by decide) rfl) hS dBal_canMove_35

set_option maxHeartbeats 4000000 in
set_option maxRecDepth 100000 in
theorem kBal_move (l : Launch) (dC : Nat → ClassId) (dI : Nat → Nat → Nat) (kI kJ kZ : ClassId) (h0 : Nat) (h1 : Nat) (n : Nat) (f : Nat → Int32) (a : Nat) (d : Nat) (v : Int32) (hn : n ≤ 24) (ha : a < n) (hd : d < n) (hv : ¬ v < 0) (hf : ¬ f a < v) :
    XM stX l yBal_move wBal_move { frames := 2, cells := 0, slots := 0, locals := 44 } (dC, dI) xCl (x_T kI kJ kZ) [(h0, .inr (0, [.ref h1, .int (nI n)])), (h1, .inl (kI, 24, .inl f))] [.ref h0, .int (nI a), .int (nI d), .int v] 0 0 x_eV (fun (r : Unit) (u : Unit) => True) (fun (u : Unit) => [(h0, .inr (0, [.ref h1, .int (nI n)])), (h1, .inl (kI, 24, .inl (upd (upd f a (f a - v)) d (upd f a (f a - v) d + v))))]) := by
  refine XM.ofV (cc := cBal_move) (maxL := 4) (by decide) rfl (Nat.le_of_ble_eq_true rfl) ?_
  intro p e s m below meth c A Q hx hb hr hml hown hts hlocks hin hA hK hP hD hX hS ls hl hret
  have hl : lv_has ls 4 [(0, .ref h0), (1, .int (nI a)), (2, .int (nI d)), (3, .int v)] := hl
  refine lv_aload_n hx hb dBal_move_0 rfl (lv_at hl 0 rfl) ?_
  refine lv_iload_n hx hb dBal_move_1 rfl (lv_at hl 1 rfl) ?_
  refine lv_iload_n hx hb dBal_move_2 rfl (lv_at hl 2 rfl) ?_
  refine lv_iload_n hx hb dBal_move_3 rfl (lv_at hl 3 rfl) ?_
  refine XM.callVi (As := [.int (nI a), .int (nI d), .int v]) (rest := []) (wr := []) stX_ok ⟨hx, hb, hml, hown, hts⟩ (kBal_canMove l dC dI kI kJ kZ h0 h1 n f a (nI d) v (by first | assumption | omega) (by first | assumption | omega)) (cwV 3 hts (x_gV gw483 gw442 gw443 gw38 gw444) rfl rfl rfl (by decide +kernel) ⟨Nat.le_of_ble_eq_true rfl, Nat.le_of_ble_eq_true rfl⟩) hK hP hD hS hA hX [0, 1] [] rfl rfl (by decide) (by decide) (by decide) rfl rfl rfl rfl hl.1 (Nat.le_of_ble_eq_true rfl) dBal_move_4 ⟨Nat.le_of_ble_eq_true rfl, Nat.le_of_ble_eq_true rfl⟩ (fun r_2 u_1 H locs hw hP hD hS => ?_)
  obtain rfl := hw
  have hP : va_P (dC, dI) xCl [(h0, .inr (0, [.ref h1, .int (nI n)])), (h1, .inl (kI, 24, .inl f))] H := hP
  have hD : va_D A [(h0, .inr (0, [.ref h1, .int (nI n)])), (h1, .inl (kI, 24, .inl f))] := hD
  refine lv_if_eq (tgt := 30) hx hb dBal_move_7 (by decide) (fun c7 => ?_) (fun c7 => ?_)
  · have c7 : (xHas n (nI d) && !(decide (v < 0)) && !(decide (f a < v))) = false := Bool.eq_false_iff.mpr (x_i10.mp c7)
    exact absurd c7 (by simp [xHas_nI hd (show n < 2 ^ 31 by omega), hv, hf])
  · have c7 : ((xHas n (nI d) && !(decide (v < 0)) && !(decide (f a < v))) = true) := Classical.not_not.mp (fun z9 => c7 (x_i10.mpr z9))
    refine lv_aload_n hx hb dBal_move_10 rfl (lv_at hl 0 rfl) ?_
    refine va_get (D := (dC, dI)) (ci := 0) (v := .ref h1) (C := RBal) (T := TBal) (N := 2) hx hb hts (fun w h => List.mem_cons_of_mem _ (layBal w h)) hown hK hP 0 rfl rfl 0 (by decide) (hts (.fieldLink RBal 9 "CallLedger$Balances" "amounts" "[I") (List.mem_cons_of_mem _ gw83)) (fun _ h9 => h9) rfl dBal_move_11 ?_
    refine lv_iload_n hx hb dBal_move_14 rfl (lv_at hl 1 rfl) ?_
    refine lv_dup2_11 hx hb dBal_move_15 rfl rfl ?_
    refine x_iald (j := a) hx hb hK hP 1 0 rfl rfl rfl (by omega) (by omega) dBal_move_16 ?_
    refine lv_iload_n hx hb dBal_move_17 rfl (lv_at hl 3 rfl) ?_
    refine lv_isub hx hb dBal_move_18 ?_
    refine x_iast (j := a) hx hb hK hP hD hS 1 0 rfl rfl rfl (by omega) (by omega) dBal_move_19 (fun H locs hP hD hS => ?_)
    have hP : va_P (dC, dI) xCl [(h0, .inr (0, [.ref h1, .int (nI n)])), (h1, .inl (kI, 24, .inl (upd f a ((f a) - v))))] H := hP
    have hD : va_D A [(h0, .inr (0, [.ref h1, .int (nI n)])), (h1, .inl (kI, 24, .inl (upd f a ((f a) - v))))] := hD
    refine lv_aload_n hx hb dBal_move_20 rfl (lv_at hl 0 rfl) ?_
    refine va_get (D := (dC, dI)) (ci := 0) (v := .ref h1) (C := RBal) (T := TBal) (N := 2) hx hb hts (fun w h => List.mem_cons_of_mem _ (layBal w h)) hown hK hP 0 rfl rfl 0 (by decide) (hts (.fieldLink RBal 9 "CallLedger$Balances" "amounts" "[I") (List.mem_cons_of_mem _ gw83)) (fun _ h9 => h9) rfl dBal_move_21 ?_
    refine lv_iload_n hx hb dBal_move_24 rfl (lv_at hl 2 rfl) ?_
    refine lv_dup2_11 hx hb dBal_move_25 rfl rfl ?_
    refine x_iald (j := d) hx hb hK hP 1 0 rfl rfl rfl (by omega) (by omega) dBal_move_26 ?_
    refine lv_iload_n hx hb dBal_move_27 rfl (lv_at hl 3 rfl) ?_
    refine lv_iadd hx hb dBal_move_28 ?_
    refine x_iast (j := d) hx hb hK hP hD hS 1 0 rfl rfl rfl (by omega) (by omega) dBal_move_29 (fun H locs hP hD hS => ?_)
    have hP : va_P (dC, dI) xCl [(h0, .inr (0, [.ref h1, .int (nI n)])), (h1, .inl (kI, 24, .inl (upd (upd f a ((f a) - v)) d (((upd f a ((f a) - v)) d) + v))))] H := hP
    have hD : va_D A [(h0, .inr (0, [.ref h1, .int (nI n)])), (h1, .inl (kI, 24, .inl (upd (upd f a ((f a) - v)) d (((upd f a ((f a) - v)) d) + v))))] := hD
    exact hret  (()) _ _ _ (trivial) (hP.sub [0, 1] rfl) (hD.sub [0, 1] (by decide) rfl) hS dBal_move_30

set_option maxHeartbeats 4000000 in
set_option maxRecDepth 100000 in
theorem kBal_total (l : Launch) (dC : Nat → ClassId) (dI : Nat → Nat → Nat) (kI kJ kZ : ClassId) (h0 : Nat) (h1 : Nat) (n : Nat) (f : Nat → Int32) (hn : n ≤ 24) :
    XM stX l yBal_total wBal_total { frames := 0, cells := 0, slots := 0, locals := 0 } (dC, dI) xCl (x_T kI kJ kZ) [(h0, .inr (0, [.ref h1, .int (nI n)])), (h1, .inl (kI, 24, .inl f))] [.ref h0] 0 0 x_eI (fun (r : Int32) (u : Unit) => r = l_sum f n) (fun (u : Unit) => [(h0, .inr (0, [.ref h1, .int (nI n)])), (h1, .inl (kI, 24, .inl f))]) := by
  refine XM.ofI (cc := cBal_total) (maxL := 3) (by decide) rfl (Nat.le_of_ble_eq_true rfl) ?_
  intro p e s m below meth c A Q hx hb hr hml hown hts hlocks hin hA hK hP hD hX hS ls hl hret
  have hl : lv_has ls 3 [(0, .ref h0)] := hl
  refine lv_iconst (v := 0) hx hb dBal_total_0 (by decide) ?_
  refine lv_istore_n (lv' := [(1, .int 0), (0, .ref h0)]) hx hb dBal_total_1 rfl hl (by decide) rfl (fun ls hl => ?_)
  refine lv_iconst (v := 0) hx hb dBal_total_2 (by decide) ?_
  refine lv_istore_n (lv' := [(2, .int 0), (1, .int 0), (0, .ref h0)]) hx hb dBal_total_3 rfl hl (by decide) rfl (fun ls hl => ?_)
  have loop4 : ∀ (N : Nat) (i : Nat), ∀ (hN : n - i < N) (hi : i ≤ n) (H : Heap) (locs : List Loc), va_P (dC, dI) xCl [(h0, .inr (0, [.ref h1, .int (nI n)])), (h1, .inl (kI, 24, .inl f))] H → va_D A [(h0, .inr (0, [.ref h1, .int (nI n)])), (h1, .inl (kI, 24, .inl f))] → va_S A s.heap H locs → ∀ ls, lv_has ls 3 [(0, .ref h0), (1, .int (l_sum f i)), (2, .int (nI i))] → W p l e { frames := 0, cells := 0, slots := 0, locals := 0 } s m [.ref h0].toArray below meth c H locs 0 0 Q (F0 m 4 ls []) := by
    intro N
    induction N with
    | zero => intro i hN; exact absurd hN (Nat.not_lt_zero _)
    | succ N ih =>
      intro i hN hi H locs hP hD hS ls hl
      refine lv_iload_n hx hb dBal_total_4 rfl (lv_at hl 2 rfl) ?_
      refine lv_aload_n hx hb dBal_total_5 rfl (lv_at hl 0 rfl) ?_
      refine va_get (D := (dC, dI)) (ci := 0) (v := .int (nI n)) (C := RBal) (T := TBal) (N := 2) hx hb hts (fun w h => List.mem_cons_of_mem _ (layBal w h)) hown hK hP 0 rfl rfl 1 (by decide) (hts (.fieldLink RBal 15 "CallLedger$Balances" "count" "I") (List.mem_cons_of_mem _ gw84)) (fun _ h9 => h9) rfl dBal_total_6 ?_
      refine lv_icmp_ge (tgt := 27) hx hb dBal_total_9 (by decide) (fun c9 => ?_) (fun c9 => ?_)
      · have c9 : n ≤ i := (nI_leI (a := n) (b := i) (by omega) (by omega)).mp c9
        refine lv_iload_n hx hb dBal_total_27 rfl (lv_at hl 1 rfl) ?_
        exact hret (l_sum f i) (()) _ _ _ (by rw [show i = n from by omega]) (hP.sub [0, 1] rfl) (hD.sub [0, 1] (by decide) rfl) hS dBal_total_28
      · have c9 : ¬ (n ≤ i) := fun z9 => c9 ((nI_leI (a := n) (b := i) (by omega) (by omega)).mpr z9)
        refine lv_iload_n hx hb dBal_total_12 rfl (lv_at hl 1 rfl) ?_
        refine lv_aload_n hx hb dBal_total_13 rfl (lv_at hl 0 rfl) ?_
        refine va_get (D := (dC, dI)) (ci := 0) (v := .ref h1) (C := RBal) (T := TBal) (N := 2) hx hb hts (fun w h => List.mem_cons_of_mem _ (layBal w h)) hown hK hP 0 rfl rfl 0 (by decide) (hts (.fieldLink RBal 9 "CallLedger$Balances" "amounts" "[I") (List.mem_cons_of_mem _ gw83)) (fun _ h9 => h9) rfl dBal_total_14 ?_
        refine lv_iload_n hx hb dBal_total_17 rfl (lv_at hl 2 rfl) ?_
        refine x_iald (j := i) hx hb hK hP 1 0 rfl rfl rfl (by omega) (by omega) dBal_total_18 ?_
        refine lv_iadd hx hb dBal_total_19 ?_
        refine lv_istore_n (lv' := [(1, .int ((l_sum f i) + (f i))), (0, .ref h0), (2, .int (nI i))]) hx hb dBal_total_20 rfl hl (by decide) rfl (fun ls hl => ?_)
        refine lv_iinc (v := nI (i + 1)) (lv' := [(2, .int (nI (i + 1))), (1, .int ((l_sum f i) + (f i))), (0, .ref h0)]) hx hb dBal_total_21 hl (k := 2) rfl (nI_1 _) (by decide) rfl (fun ls hl => ?_)
        refine lv_goto (tgt := 4) hx hb dBal_total_24 (by decide) ?_
        exact ih (i + 1) (by omega) (by omega) _ _ (hP.sub [0, 1] rfl) (hD.sub [0, 1] (by decide) rfl) hS _ (lv_sub hl [2, 1, 0] rfl)
  exact loop4 _ 0 (Nat.lt_succ_self _) (Nat.zero_le _) _ _ (hP.sub [0, 1] rfl) (hD.sub [0, 1] (by decide) rfl) hS _ (lv_sub hl [2, 1, 0] rfl)

set_option maxHeartbeats 4000000 in
set_option maxRecDepth 100000 in
theorem kBal_add (l : Launch) (dC : Nat → ClassId) (dI : Nat → Nat → Nat) (kI kJ kZ : ClassId) (h0 : Nat) (h1 : Nat) (n : Nat) (f : Nat → Int32) (x : Int32) (hn : n ≤ 24) :
    XM stX l yBal_add wBal_add { frames := 1, cells := 0, slots := 0, locals := 22 } (dC, dI) xCl (x_T kI kJ kZ) [(h0, .inr (0, [.ref h1, .int (nI n)])), (h1, .inl (kI, 24, .inl f))] [.ref h0, .int x] 0 0 x_eI (fun (r : Int32) (u : (Nat → Int32) × Nat) => (r = if n < 24 ∧ (l_sum f n).toInt64 + x.toInt64 ≤ 2147483647 then nI n else -1) ∧ (u.1 = if n < 24 ∧ (l_sum f n).toInt64 + x.toInt64 ≤ 2147483647 then upd f n x else f) ∧ (u.2 = if n < 24 ∧ (l_sum f n).toInt64 + x.toInt64 ≤ 2147483647 then n + 1 else n)) (fun (u : (Nat → Int32) × Nat) => [(h0, .inr (0, [.ref h1, .int (nI u.2)])), (h1, .inl (kI, 24, .inl u.1))]) := by
  refine XM.ofI (cc := cBal_add) (maxL := 2) (by decide) rfl (Nat.le_of_ble_eq_true rfl) ?_
  intro p e s m below meth c A Q hx hb hr hml hown hts hlocks hin hA hK hP hD hX hS ls hl hret
  have hl : lv_has ls 2 [(0, .ref h0), (1, .int x)] := hl
  refine lv_aload_n hx hb dBal_add_0 rfl (lv_at hl 0 rfl) ?_
  refine va_get (D := (dC, dI)) (ci := 0) (v := .int (nI n)) (C := RBal) (T := TBal) (N := 2) hx hb hts (fun w h => List.mem_cons_of_mem _ (layBal w h)) hown hK hP 0 rfl rfl 1 (by decide) (hts (.fieldLink RBal 15 "CallLedger$Balances" "count" "I") (List.mem_cons_of_mem _ gw84)) (fun _ h9 => h9) rfl dBal_add_1 ?_
  refine lv_bipush (v := 24) hx hb dBal_add_4 (by decide) ?_
  refine lv_icmp_ge (tgt := 24) hx hb dBal_add_6 (by decide) (fun c6 => ?_) (fun c6 => ?_)
  · have c6 : 24 ≤ n := (nI_leI (a := 24) (b := n) (by omega) (by omega)).mp c6
    refine lv_iconst (v := (-1)) hx hb dBal_add_24 (by decide) ?_
    exact hret (-1) ((f, n)) _ _ _ (⟨by first | exact (if_pos ⟨by omega, c21⟩).symm | exact (if_neg (fun z => c21 z.2)).symm | exact (if_neg (fun z => by omega)).symm, by first | exact (if_pos ⟨by omega, c21⟩).symm | exact (if_neg (fun z => c21 z.2)).symm | exact (if_neg (fun z => by omega)).symm, by first | exact (if_pos ⟨by omega, c21⟩).symm | exact (if_neg (fun z => c21 z.2)).symm | exact (if_neg (fun z => by omega)).symm⟩) (hP.sub [0, 1] rfl) (hD.sub [0, 1] (by decide) rfl) hS dBal_add_25
  · have c6 : ¬ (24 ≤ n) := fun z9 => c6 ((nI_leI (a := 24) (b := n) (by omega) (by omega)).mpr z9)
    refine lv_aload_n hx hb dBal_add_9 rfl (lv_at hl 0 rfl) ?_
    refine XM.callVi (As := []) (rest := []) (wr := []) stX_ok ⟨hx, hb, hml, hown, hts⟩ (kBal_total l dC dI kI kJ kZ h0 h1 n f (by first | assumption | omega)) (cwV 0 hts (x_gV gw342 gw259 gw260 gw38 gw261) rfl rfl rfl (by decide +kernel) ⟨Nat.le_of_ble_eq_true rfl, Nat.le_of_ble_eq_true rfl⟩) hK hP hD hS hA hX [0, 1] [] rfl rfl (by decide) (by decide) (by decide) rfl rfl rfl rfl hl.1 (Nat.le_of_ble_eq_true rfl) dBal_add_10 ⟨Nat.le_of_ble_eq_true rfl, Nat.le_of_ble_eq_true rfl⟩ (fun r_2 u_1 H locs hw hP hD hS => ?_)
    obtain rfl := hw
    have hP : va_P (dC, dI) xCl [(h0, .inr (0, [.ref h1, .int (nI n)])), (h1, .inl (kI, 24, .inl f))] H := hP
    have hD : va_D A [(h0, .inr (0, [.ref h1, .int (nI n)])), (h1, .inl (kI, 24, .inl f))] := hD
    refine lv_i2l (v := (l_sum f n).toInt64) hx hb dBal_add_13 rfl ?_
    refine lv_iload_n hx hb dBal_add_14 rfl (lv_at hl 1 rfl) ?_
    refine lv_i2l (v := x.toInt64) hx hb dBal_add_15 rfl ?_
    refine lv_ladd hx hb dBal_add_16 ?_
    refine lv_ldc2 (v := 2147483647) hx hb hown (hts (.constantLong RBal 23 2147483647) (by decide +kernel)) dBal_add_17 ?_
    refine W.lcmp hx hb dBal_add_20 ?_
    refine lv_if_le (tgt := 26) hx hb dBal_add_21 (by decide) (fun c21 => ?_) (fun c21 => ?_)
    · have c21 := (lg_cmp_le _ _).mp c21
      refine lv_aload_n hx hb dBal_add_26 rfl (lv_at hl 0 rfl) ?_
      refine va_get (D := (dC, dI)) (ci := 0) (v := .ref h1) (C := RBal) (T := TBal) (N := 2) hx hb hts (fun w h => List.mem_cons_of_mem _ (layBal w h)) hown hK hP 0 rfl rfl 0 (by decide) (hts (.fieldLink RBal 9 "CallLedger$Balances" "amounts" "[I") (List.mem_cons_of_mem _ gw83)) (fun _ h9 => h9) rfl dBal_add_27 ?_
      refine lv_aload_n hx hb dBal_add_30 rfl (lv_at hl 0 rfl) ?_
      refine va_get (D := (dC, dI)) (ci := 0) (v := .int (nI n)) (C := RBal) (T := TBal) (N := 2) hx hb hts (fun w h => List.mem_cons_of_mem _ (layBal w h)) hown hK hP 0 rfl rfl 1 (by decide) (hts (.fieldLink RBal 15 "CallLedger$Balances" "count" "I") (List.mem_cons_of_mem _ gw84)) (fun _ h9 => h9) rfl dBal_add_31 ?_
      refine lv_iload_n hx hb dBal_add_34 rfl (lv_at hl 1 rfl) ?_
      refine x_iast (j := n) hx hb hK hP hD hS 1 0 rfl rfl rfl (by omega) (by omega) dBal_add_35 (fun H locs hP hD hS => ?_)
      have hP : va_P (dC, dI) xCl [(h0, .inr (0, [.ref h1, .int (nI n)])), (h1, .inl (kI, 24, .inl (upd f n x)))] H := hP
      have hD : va_D A [(h0, .inr (0, [.ref h1, .int (nI n)])), (h1, .inl (kI, 24, .inl (upd f n x)))] := hD
      refine lv_aload_n hx hb dBal_add_36 rfl (lv_at hl 0 rfl) ?_
      refine lv_dup hx hb dBal_add_37 rfl ?_
      refine va_get (D := (dC, dI)) (ci := 0) (v := .int (nI n)) (C := RBal) (T := TBal) (N := 2) hx hb hts (fun w h => List.mem_cons_of_mem _ (layBal w h)) hown hK hP 0 rfl rfl 1 (by decide) (hts (.fieldLink RBal 15 "CallLedger$Balances" "count" "I") (List.mem_cons_of_mem _ gw84)) (fun _ h9 => h9) rfl dBal_add_38 ?_
      refine lv_iconst (v := 1) hx hb dBal_add_41 (by decide) ?_
      refine lv_iadd hx hb dBal_add_42 ?_
      refine x_topi (y := nI (n + 1)) (nI_1 _) ?_
      refine va_put (D := (dC, dI)) (ci := 0) (v := .int (nI (n + 1))) (ty := .int) (C := RBal) (T := TBal) (N := 2) hx hb hts (fun w h => List.mem_cons_of_mem _ (layBal w h)) tyBal tykBal nmBal hown hK hP hD hS 0 rfl rfl 1 (by decide) (hts (.fieldLink RBal 15 "CallLedger$Balances" "count" "I") (List.mem_cons_of_mem _ gw84)) (fun _ h9 => h9) rfl (by decide +kernel) rfl rfl (Nat.le_of_ble_eq_true rfl) dBal_add_43 (fun H locs hP hD hS => ?_)
      have hP : va_P (dC, dI) xCl [(h0, .inr (0, [.ref h1, .int (nI (n + 1))])), (h1, .inl (kI, 24, .inl (upd f n x)))] H := hP
      have hD : va_D A [(h0, .inr (0, [.ref h1, .int (nI (n + 1))])), (h1, .inl (kI, 24, .inl (upd f n x)))] := hD
      refine lv_aload_n hx hb dBal_add_46 rfl (lv_at hl 0 rfl) ?_
      refine va_get (D := (dC, dI)) (ci := 0) (v := .int (nI (n + 1))) (C := RBal) (T := TBal) (N := 2) hx hb hts (fun w h => List.mem_cons_of_mem _ (layBal w h)) hown hK hP 0 rfl rfl 1 (by decide) (hts (.fieldLink RBal 15 "CallLedger$Balances" "count" "I") (List.mem_cons_of_mem _ gw84)) (fun _ h9 => h9) rfl dBal_add_47 ?_
      refine lv_iconst (v := 1) hx hb dBal_add_50 (by decide) ?_
      refine lv_isub hx hb dBal_add_51 ?_
      refine x_topi (y := nI n) ((x_pred (by omega)).trans (by rw [Nat.add_sub_cancel])) ?_
      exact hret (nI n) ((upd f n x, n + 1)) _ _ _ (⟨by first | exact (if_pos ⟨by omega, c21⟩).symm | exact (if_neg (fun z => c21 z.2)).symm | exact (if_neg (fun z => by omega)).symm, by first | exact (if_pos ⟨by omega, c21⟩).symm | exact (if_neg (fun z => c21 z.2)).symm | exact (if_neg (fun z => by omega)).symm, by first | exact (if_pos ⟨by omega, c21⟩).symm | exact (if_neg (fun z => c21 z.2)).symm | exact (if_neg (fun z => by omega)).symm⟩) (hP.sub [0, 1] rfl) (hD.sub [0, 1] (by decide) rfl) hS dBal_add_52
    · have c21 := fun z => c21 ((lg_cmp_le _ _).mpr z)
      refine lv_iconst (v := (-1)) hx hb dBal_add_24 (by decide) ?_
      exact hret (-1) ((f, n)) _ _ _ (⟨by first | exact (if_pos ⟨by omega, c21⟩).symm | exact (if_neg (fun z => c21 z.2)).symm | exact (if_neg (fun z => by omega)).symm, by first | exact (if_pos ⟨by omega, c21⟩).symm | exact (if_neg (fun z => c21 z.2)).symm | exact (if_neg (fun z => by omega)).symm, by first | exact (if_pos ⟨by omega, c21⟩).symm | exact (if_neg (fun z => c21 z.2)).symm | exact (if_neg (fun z => by omega)).symm⟩) (hP.sub [0, 1] rfl) (hD.sub [0, 1] (by decide) rfl) hS dBal_add_25

set_option maxHeartbeats 4000000 in
set_option maxRecDepth 100000 in
theorem kBal_copyTo (l : Launch) (dC : Nat → ClassId) (dI : Nat → Nat → Nat) (kI kJ kZ : ClassId) (h0 : Nat) (h1 : Nat) (n : Nat) (f : Nat → Int32) (h2 : Nat) (g : Nat → Int32) (hn : n ≤ 24) :
    XM stX l yBal_copyTo wBal_copyTo { frames := 1, cells := 0, slots := 0, locals := 200 } (dC, dI) xCl (x_T kI kJ kZ) [(h0, .inr (0, [.ref h1, .int (nI n)])), (h1, .inl (kI, 24, .inl f)), (h2, .inl (kI, 24, .inl g))] [.ref h0, .ref h2] 0 0 x_eV (fun (r : Unit) (u : Unit) => True) (fun (u : Unit) => [(h0, .inr (0, [.ref h1, .int (nI n)])), (h1, .inl (kI, 24, .inl f)), (h2, .inl (kI, 24, .inl (va_cpy f g 0 0 n)))]) := by
  refine XM.ofV (cc := cBal_copyTo) (maxL := 2) (by decide) rfl (Nat.le_of_ble_eq_true rfl) ?_
  intro p e s m below meth c A Q hx hb hr hml hown hts hlocks hin hA hK hP hD hX hS ls hl hret
  have hl : lv_has ls 2 [(0, .ref h0), (1, .ref h2)] := hl
  refine lv_aload_n hx hb dBal_copyTo_0 rfl (lv_at hl 0 rfl) ?_
  refine va_get (D := (dC, dI)) (ci := 0) (v := .ref h1) (C := RBal) (T := TBal) (N := 2) hx hb hts (fun w h => List.mem_cons_of_mem _ (layBal w h)) hown hK hP 0 rfl rfl 0 (by decide) (hts (.fieldLink RBal 9 "CallLedger$Balances" "amounts" "[I") (List.mem_cons_of_mem _ gw83)) (fun _ h9 => h9) rfl dBal_copyTo_1 ?_
  refine lv_iconst (v := 0) hx hb dBal_copyTo_4 (by decide) ?_
  refine lv_aload_n hx hb dBal_copyTo_5 rfl (lv_at hl 1 rfl) ?_
  refine lv_iconst (v := 0) hx hb dBal_copyTo_6 (by decide) ?_
  refine lv_aload_n hx hb dBal_copyTo_7 rfl (lv_at hl 0 rfl) ?_
  refine va_get (D := (dC, dI)) (ci := 0) (v := .int (nI n)) (C := RBal) (T := TBal) (N := 2) hx hb hts (fun w h => List.mem_cons_of_mem _ (layBal w h)) hown hK hP 0 rfl rfl 1 (by decide) (hts (.fieldLink RBal 15 "CallLedger$Balances" "count" "I") (List.mem_cons_of_mem _ gw84)) (fun _ h9 => h9) rfl dBal_copyTo_8 ?_
  refine lv_aload_n hx hb dBal_copyTo_11 rfl (lv_at hl 1 rfl) ?_
  refine va_alen (v := nI 24) hx hb hK hP 2 0 rfl rfl rfl dBal_copyTo_12 ?_
  refine va_mmin hx hb (hml.trans hl.1.symm) hown (hts (.methodLink RBal 33 Lib.Math.min.name) (List.mem_cons_of_mem _ gw468)) (hts (.static Lib.Math.min.name) (List.mem_cons_of_mem _ gw469)) (hts (.initialized "java/lang/Math") (List.mem_cons_of_mem _ gw41)) (hts (.code Lib.Math.min.name Lib.Math.min.code 2 (some .int)) (List.mem_cons_of_mem _ gw470)) (Nat.le_of_ble_eq_true rfl) (Nat.le_of_ble_eq_true rfl) (Nat.le_of_ble_eq_true rfl) (Nat.le_of_ble_eq_true rfl) dBal_copyTo_13 ?_
  refine x_topi (y := nI n) (x_min hn (by omega)) ?_
  refine x_copyi (ps := 0) (pd := 0) (k := n) hx hb (hml.trans hl.1.symm) hown (hts (.methodLink RBal 39 arraycopyName) (List.mem_cons_of_mem _ gw471)) (hts (.native arraycopyName) (List.mem_cons_of_mem _ gw473)) (hts (.static arraycopyName) (List.mem_cons_of_mem _ gw472)) (hts (.initialized "java/lang/System") (List.mem_cons_of_mem _ gw50)) hK hP hD hS 1 2 0 0 rfl rfl rfl rfl rfl rfl rfl (by omega) (by omega) (by omega) (by omega) (Nat.le_of_ble_eq_true rfl) (by decide +kernel) dBal_copyTo_16 (fun H locs hP hD hS => ?_)
  have hP : va_P (dC, dI) xCl [(h0, .inr (0, [.ref h1, .int (nI n)])), (h1, .inl (kI, 24, .inl f)), (h2, .inl (kI, 24, .inl (va_cpy f g 0 0 n)))] H := hP
  have hD : va_D A [(h0, .inr (0, [.ref h1, .int (nI n)])), (h1, .inl (kI, 24, .inl f)), (h2, .inl (kI, 24, .inl (va_cpy f g 0 0 n)))] := hD
  exact hret  (()) _ _ _ (trivial) (hP.sub [0, 1, 2] rfl) (hD.sub [0, 1, 2] (by decide) rfl) hS dBal_copyTo_19

set_option maxHeartbeats 4000000 in
set_option maxRecDepth 100000 in
theorem kBal_copyFrom (l : Launch) (dC : Nat → ClassId) (dI : Nat → Nat → Nat) (kI kJ kZ : ClassId) (h0 : Nat) (h1 : Nat) (n : Nat) (f : Nat → Int32) (h2 : Nat) (g : Nat → Int32) (hn : n ≤ 24) :
    XM stX l yBal_copyFrom wBal_copyFrom { frames := 1, cells := 0, slots := 0, locals := 200 } (dC, dI) xCl (x_T kI kJ kZ) [(h0, .inr (0, [.ref h1, .int (nI n)])), (h1, .inl (kI, 24, .inl f)), (h2, .inl (kI, 24, .inl g))] [.ref h0, .ref h2] 0 0 x_eV (fun (r : Unit) (u : Unit) => True) (fun (u : Unit) => [(h0, .inr (0, [.ref h1, .int (nI n)])), (h1, .inl (kI, 24, .inl (va_cpy g f 0 0 n))), (h2, .inl (kI, 24, .inl g))]) := by
  refine XM.ofV (cc := cBal_copyFrom) (maxL := 2) (by decide) rfl (Nat.le_of_ble_eq_true rfl) ?_
  intro p e s m below meth c A Q hx hb hr hml hown hts hlocks hin hA hK hP hD hX hS ls hl hret
  have hl : lv_has ls 2 [(0, .ref h0), (1, .ref h2)] := hl
  refine lv_aload_n hx hb dBal_copyFrom_0 rfl (lv_at hl 1 rfl) ?_
  refine lv_iconst (v := 0) hx hb dBal_copyFrom_1 (by decide) ?_
  refine lv_aload_n hx hb dBal_copyFrom_2 rfl (lv_at hl 0 rfl) ?_
  refine va_get (D := (dC, dI)) (ci := 0) (v := .ref h1) (C := RBal) (T := TBal) (N := 2) hx hb hts (fun w h => List.mem_cons_of_mem _ (layBal w h)) hown hK hP 0 rfl rfl 0 (by decide) (hts (.fieldLink RBal 9 "CallLedger$Balances" "amounts" "[I") (List.mem_cons_of_mem _ gw83)) (fun _ h9 => h9) rfl dBal_copyFrom_3 ?_
  refine lv_iconst (v := 0) hx hb dBal_copyFrom_6 (by decide) ?_
  refine lv_aload_n hx hb dBal_copyFrom_7 rfl (lv_at hl 0 rfl) ?_
  refine va_get (D := (dC, dI)) (ci := 0) (v := .int (nI n)) (C := RBal) (T := TBal) (N := 2) hx hb hts (fun w h => List.mem_cons_of_mem _ (layBal w h)) hown hK hP 0 rfl rfl 1 (by decide) (hts (.fieldLink RBal 15 "CallLedger$Balances" "count" "I") (List.mem_cons_of_mem _ gw84)) (fun _ h9 => h9) rfl dBal_copyFrom_8 ?_
  refine lv_aload_n hx hb dBal_copyFrom_11 rfl (lv_at hl 1 rfl) ?_
  refine va_alen (v := nI 24) hx hb hK hP 2 0 rfl rfl rfl dBal_copyFrom_12 ?_
  refine va_mmin hx hb (hml.trans hl.1.symm) hown (hts (.methodLink RBal 33 Lib.Math.min.name) (List.mem_cons_of_mem _ gw468)) (hts (.static Lib.Math.min.name) (List.mem_cons_of_mem _ gw469)) (hts (.initialized "java/lang/Math") (List.mem_cons_of_mem _ gw41)) (hts (.code Lib.Math.min.name Lib.Math.min.code 2 (some .int)) (List.mem_cons_of_mem _ gw470)) (Nat.le_of_ble_eq_true rfl) (Nat.le_of_ble_eq_true rfl) (Nat.le_of_ble_eq_true rfl) (Nat.le_of_ble_eq_true rfl) dBal_copyFrom_13 ?_
  refine x_topi (y := nI n) (x_min hn (by omega)) ?_
  refine x_copyi (ps := 0) (pd := 0) (k := n) hx hb (hml.trans hl.1.symm) hown (hts (.methodLink RBal 39 arraycopyName) (List.mem_cons_of_mem _ gw471)) (hts (.native arraycopyName) (List.mem_cons_of_mem _ gw473)) (hts (.static arraycopyName) (List.mem_cons_of_mem _ gw472)) (hts (.initialized "java/lang/System") (List.mem_cons_of_mem _ gw50)) hK hP hD hS 2 1 0 0 rfl rfl rfl rfl rfl rfl rfl (by omega) (by omega) (by omega) (by omega) (Nat.le_of_ble_eq_true rfl) (by decide +kernel) dBal_copyFrom_16 (fun H locs hP hD hS => ?_)
  have hP : va_P (dC, dI) xCl [(h0, .inr (0, [.ref h1, .int (nI n)])), (h1, .inl (kI, 24, .inl (va_cpy g f 0 0 n))), (h2, .inl (kI, 24, .inl g))] H := hP
  have hD : va_D A [(h0, .inr (0, [.ref h1, .int (nI n)])), (h1, .inl (kI, 24, .inl (va_cpy g f 0 0 n))), (h2, .inl (kI, 24, .inl g))] := hD
  exact hret  (()) _ _ _ (trivial) (hP.sub [0, 1, 2] rfl) (hD.sub [0, 1, 2] (by decide) rfl) hS dBal_copyFrom_19

