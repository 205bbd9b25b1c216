theorem dLed_used_0 : decode cLed_used 0 = .ok (.aload_n 0, 1) := by decide +kernel
theorem dLed_used_1 : decode cLed_used 1 = .ok (.getfield 107, 3) := by decide +kernel
theorem dLed_used_4 : decode cLed_used 4 = .ok (.ireturn, 1) := by decide +kernel
theorem dLed_result_0 : decode cLed_result 0 = .ok (.aload_n 0, 1) := by decide +kernel
theorem dLed_result_1 : decode cLed_result 1 = .ok (.getfield 113, 3) := by decide +kernel
theorem dLed_result_4 : decode cLed_result 4 = .ok (.ireturn, 1) := by decide +kernel
theorem dLed_supply_0 : decode cLed_supply 0 = .ok (.aload_n 0, 1) := by decide +kernel
theorem dLed_supply_1 : decode cLed_supply 1 = .ok (.getfield 19, 3) := by decide +kernel
theorem dLed_supply_4 : decode cLed_supply 4 = .ok (.invokevirtual 134, 3) := by decide +kernel
theorem dLed_supply_7 : decode cLed_supply 7 = .ok (.ireturn, 1) := by decide +kernel
theorem dLed_keys_0 : decode cLed_keys 0 = .ok (.aload_n 0, 1) := by decide +kernel
theorem dLed_keys_1 : decode cLed_keys 1 = .ok (.getfield 26, 3) := by decide +kernel
theorem dLed_keys_4 : decode cLed_keys 4 = .ok (.invokevirtual 125, 3) := by decide +kernel
theorem dLed_keys_7 : decode cLed_keys 7 = .ok (.ireturn, 1) := by decide +kernel
theorem dLed_logged_0 : decode cLed_logged 0 = .ok (.aload_n 0, 1) := by decide +kernel
theorem dLed_logged_1 : decode cLed_logged 1 = .ok (.getfield 35, 3) := by decide +kernel
theorem dLed_logged_4 : decode cLed_logged 4 = .ok (.invokevirtual 81, 3) := by decide +kernel
theorem dLed_logged_7 : decode cLed_logged 7 = .ok (.ireturn, 1) := by decide +kernel
theorem dLed_requireAccount_0 : decode cLed_requireAccount 0 = .ok (.aload_n 0, 1) := by decide +kernel
theorem dLed_requireAccount_1 : decode cLed_requireAccount 1 = .ok (.getfield 19, 3) := by decide +kernel
theorem dLed_requireAccount_4 : decode cLed_requireAccount 4 = .ok (.iload_n 1, 1) := by decide +kernel
theorem dLed_requireAccount_5 : decode cLed_requireAccount 5 = .ok (.invokevirtual 137, 3) := by decide +kernel
theorem dLed_requireAccount_8 : decode cLed_requireAccount 8 = .ok (.ifCond .ne 13, 3) := by decide +kernel
theorem dLed_requireAccount_11 : decode cLed_requireAccount 11 = .ok (.new 126, 3) := by decide +kernel
theorem dLed_requireAccount_14 : decode cLed_requireAccount 14 = .ok (.dup, 1) := by decide +kernel
theorem dLed_requireAccount_15 : decode cLed_requireAccount 15 = .ok (.ldc 141, 2) := by decide +kernel
theorem dLed_requireAccount_17 : decode cLed_requireAccount 17 = .ok (.invokespecial 130, 3) := by decide +kernel
theorem dLed_requireAccount_20 : decode cLed_requireAccount 20 = .ok (.athrow, 1) := by decide +kernel
theorem dLed_requireAccount_21 : decode cLed_requireAccount 21 = .ok (.return_, 1) := by decide +kernel
theorem dLed_requireUnsealed_0 : decode cLed_requireUnsealed 0 = .ok (.aload_n 0, 1) := by decide +kernel
theorem dLed_requireUnsealed_1 : decode cLed_requireUnsealed 1 = .ok (.getfield 12, 3) := by decide +kernel
theorem dLed_requireUnsealed_4 : decode cLed_requireUnsealed 4 = .ok (.iload_n 1, 1) := by decide +kernel
theorem dLed_requireUnsealed_5 : decode cLed_requireUnsealed 5 = .ok (.invokevirtual 143, 3) := by decide +kernel
theorem dLed_requireUnsealed_8 : decode cLed_requireUnsealed 8 = .ok (.ifCond .eq 13, 3) := by decide +kernel
theorem dLed_requireUnsealed_11 : decode cLed_requireUnsealed 11 = .ok (.new 146, 3) := by decide +kernel
theorem dLed_requireUnsealed_14 : decode cLed_requireUnsealed 14 = .ok (.dup, 1) := by decide +kernel
theorem dLed_requireUnsealed_15 : decode cLed_requireUnsealed 15 = .ok (.ldc 148, 2) := by decide +kernel
theorem dLed_requireUnsealed_17 : decode cLed_requireUnsealed 17 = .ok (.invokespecial 150, 3) := by decide +kernel
theorem dLed_requireUnsealed_20 : decode cLed_requireUnsealed 20 = .ok (.athrow, 1) := by decide +kernel
theorem dLed_requireUnsealed_21 : decode cLed_requireUnsealed 21 = .ok (.return_, 1) := by decide +kernel
theorem dLed_open_0 : decode cLed_open 0 = .ok (.iload_n 1, 1) := by decide +kernel
theorem dLed_open_1 : decode cLed_open 1 = .ok (.ifCond .ge 13, 3) := by decide +kernel
theorem dLed_open_4 : decode cLed_open 4 = .ok (.new 48, 3) := by decide +kernel
theorem dLed_open_7 : decode cLed_open 7 = .ok (.dup, 1) := by decide +kernel
theorem dLed_open_8 : decode cLed_open 8 = .ok (.ldc 50, 2) := by decide +kernel
theorem dLed_open_10 : decode cLed_open 10 = .ok (.invokespecial 52, 3) := by decide +kernel
theorem dLed_open_13 : decode cLed_open 13 = .ok (.athrow, 1) := by decide +kernel
theorem dLed_open_14 : decode cLed_open 14 = .ok (.aload_n 0, 1) := by decide +kernel
theorem dLed_open_15 : decode cLed_open 15 = .ok (.getfield 19, 3) := by decide +kernel
theorem dLed_open_18 : decode cLed_open 18 = .ok (.iload_n 1, 1) := by decide +kernel
theorem dLed_open_19 : decode cLed_open 19 = .ok (.invokevirtual 55, 3) := by decide +kernel
theorem dLed_open_22 : decode cLed_open 22 = .ok (.ireturn, 1) := by decide +kernel
theorem dLed_code_0 : decode cLed_code 0 = .ok (.aload_n 0, 1) := by decide +kernel
theorem dLed_code_1 : decode cLed_code 1 = .ok (.iload_n 1, 1) := by decide +kernel
theorem dLed_code_2 : decode cLed_code 2 = .ok (.invokevirtual 59, 3) := by decide +kernel
theorem dLed_code_5 : decode cLed_code 5 = .ok (.aload_n 0, 1) := by decide +kernel
theorem dLed_code_6 : decode cLed_code 6 = .ok (.iload_n 1, 1) := by decide +kernel
theorem dLed_code_7 : decode cLed_code 7 = .ok (.invokevirtual 62, 3) := by decide +kernel
theorem dLed_code_10 : decode cLed_code 10 = .ok (.aload_n 0, 1) := by decide +kernel
theorem dLed_code_11 : decode cLed_code 11 = .ok (.getfield 12, 3) := by decide +kernel
theorem dLed_code_14 : decode cLed_code 14 = .ok (.iload_n 1, 1) := by decide +kernel
theorem dLed_code_15 : decode cLed_code 15 = .ok (.iload_n 2, 1) := by decide +kernel
theorem dLed_code_16 : decode cLed_code 16 = .ok (.invokevirtual 65, 3) := by decide +kernel
theorem dLed_code_19 : decode cLed_code 19 = .ok (.ireturn, 1) := by decide +kernel
theorem dLed_seal_0 : decode cLed_seal 0 = .ok (.aload_n 0, 1) := by decide +kernel
theorem dLed_seal_1 : decode cLed_seal 1 = .ok (.iload_n 1, 1) := by decide +kernel
theorem dLed_seal_2 : decode cLed_seal 2 = .ok (.invokevirtual 59, 3) := by decide +kernel
theorem dLed_seal_5 : decode cLed_seal 5 = .ok (.aload_n 0, 1) := by decide +kernel
theorem dLed_seal_6 : decode cLed_seal 6 = .ok (.iload_n 1, 1) := by decide +kernel
theorem dLed_seal_7 : decode cLed_seal 7 = .ok (.invokevirtual 62, 3) := by decide +kernel
theorem dLed_seal_10 : decode cLed_seal 10 = .ok (.aload_n 0, 1) := by decide +kernel
theorem dLed_seal_11 : decode cLed_seal 11 = .ok (.getfield 12, 3) := by decide +kernel
theorem dLed_seal_14 : decode cLed_seal 14 = .ok (.iload_n 1, 1) := by decide +kernel
theorem dLed_seal_15 : decode cLed_seal 15 = .ok (.invokevirtual 69, 3) := by decide +kernel
theorem dLed_seal_18 : decode cLed_seal 18 = .ok (.ireturn, 1) := by decide +kernel
theorem dLed_balance_0 : decode cLed_balance 0 = .ok (.aload_n 0, 1) := by decide +kernel
theorem dLed_balance_1 : decode cLed_balance 1 = .ok (.iload_n 1, 1) := by decide +kernel
theorem dLed_balance_2 : decode cLed_balance 2 = .ok (.invokevirtual 59, 3) := by decide +kernel
theorem dLed_balance_5 : decode cLed_balance 5 = .ok (.aload_n 0, 1) := by decide +kernel
theorem dLed_balance_6 : decode cLed_balance 6 = .ok (.getfield 19, 3) := by decide +kernel
theorem dLed_balance_9 : decode cLed_balance 9 = .ok (.iload_n 1, 1) := by decide +kernel
theorem dLed_balance_10 : decode cLed_balance 10 = .ok (.invokevirtual 119, 3) := by decide +kernel
theorem dLed_balance_13 : decode cLed_balance 13 = .ok (.ireturn, 1) := by decide +kernel
theorem dLed_storage_0 : decode cLed_storage 0 = .ok (.aload_n 0, 1) := by decide +kernel
theorem dLed_storage_1 : decode cLed_storage 1 = .ok (.iload_n 1, 1) := by decide +kernel
theorem dLed_storage_2 : decode cLed_storage 2 = .ok (.invokevirtual 59, 3) := by decide +kernel
theorem dLed_storage_5 : decode cLed_storage 5 = .ok (.aload_n 0, 1) := by decide +kernel
theorem dLed_storage_6 : decode cLed_storage 6 = .ok (.getfield 26, 3) := by decide +kernel
theorem dLed_storage_9 : decode cLed_storage 9 = .ok (.iload_n 1, 1) := by decide +kernel
theorem dLed_storage_10 : decode cLed_storage 10 = .ok (.iload_n 2, 1) := by decide +kernel
theorem dLed_storage_11 : decode cLed_storage 11 = .ok (.invokevirtual 122, 3) := by decide +kernel
theorem dLed_storage_14 : decode cLed_storage 14 = .ok (.ireturn, 1) := by decide +kernel
theorem dLed_log_0 : decode cLed_log 0 = .ok (.iload_n 1, 1) := by decide +kernel
theorem dLed_log_1 : decode cLed_log 1 = .ok (.ifCond .lt 14, 3) := by decide +kernel
theorem dLed_log_4 : decode cLed_log 4 = .ok (.iload_n 1, 1) := by decide +kernel
theorem dLed_log_5 : decode cLed_log 5 = .ok (.aload_n 0, 1) := by decide +kernel
theorem dLed_log_6 : decode cLed_log 6 = .ok (.getfield 35, 3) := by decide +kernel
theorem dLed_log_9 : decode cLed_log 9 = .ok (.invokevirtual 81, 3) := by decide +kernel
theorem dLed_log_12 : decode cLed_log 12 = .ok (.if_icmp .lt 13, 3) := by decide +kernel
theorem dLed_log_15 : decode cLed_log 15 = .ok (.new 126, 3) := by decide +kernel
theorem dLed_log_18 : decode cLed_log 18 = .ok (.dup, 1) := by decide +kernel
theorem dLed_log_19 : decode cLed_log 19 = .ok (.ldc 128, 2) := by decide +kernel
theorem dLed_log_21 : decode cLed_log 21 = .ok (.invokespecial 130, 3) := by decide +kernel
theorem dLed_log_24 : decode cLed_log 24 = .ok (.athrow, 1) := by decide +kernel
theorem dLed_log_25 : decode cLed_log 25 = .ok (.aload_n 0, 1) := by decide +kernel
theorem dLed_log_26 : decode cLed_log 26 = .ok (.getfield 35, 3) := by decide +kernel
theorem dLed_log_29 : decode cLed_log 29 = .ok (.iload_n 1, 1) := by decide +kernel
theorem dLed_log_30 : decode cLed_log 30 = .ok (.invokevirtual 131, 3) := by decide +kernel
theorem dLed_log_33 : decode cLed_log 33 = .ok (.ireturn, 1) := by decide +kernel
theorem dLed_argument_0 : decode cLed_argument 0 = .ok (.aload_n 0, 1) := by decide +kernel
theorem dLed_argument_1 : decode cLed_argument 1 = .ok (.getfield 44, 3) := by decide +kernel
theorem dLed_argument_4 : decode cLed_argument 4 = .ok (.getfield 72, 3) := by decide +kernel
theorem dLed_argument_7 : decode cLed_argument 7 = .ok (.invokevirtual 75, 3) := by decide +kernel
theorem dLed_argument_10 : decode cLed_argument 10 = .ok (.ifCond .eq 5, 3) := by decide +kernel
theorem dLed_argument_13 : decode cLed_argument 13 = .ok (.iconst (-1), 1) := by decide +kernel
theorem dLed_argument_14 : decode cLed_argument 14 = .ok (.ireturn, 1) := by decide +kernel
theorem dLed_argument_15 : decode cLed_argument 15 = .ok (.aload_n 0, 1) := by decide +kernel
theorem dLed_argument_16 : decode cLed_argument 16 = .ok (.getfield 44, 3) := by decide +kernel
theorem dLed_argument_19 : decode cLed_argument 19 = .ok (.getfield 72, 3) := by decide +kernel
theorem dLed_argument_22 : decode cLed_argument 22 = .ok (.iload_n 1, 1) := by decide +kernel
theorem dLed_argument_23 : decode cLed_argument 23 = .ok (.invokevirtual 79, 3) := by decide +kernel
theorem dLed_argument_26 : decode cLed_argument 26 = .ok (.aload_n 0, 1) := by decide +kernel
theorem dLed_argument_27 : decode cLed_argument 27 = .ok (.getfield 44, 3) := by decide +kernel
theorem dLed_argument_30 : decode cLed_argument 30 = .ok (.getfield 72, 3) := by decide +kernel
theorem dLed_argument_33 : decode cLed_argument 33 = .ok (.invokevirtual 81, 3) := by decide +kernel
theorem dLed_argument_36 : decode cLed_argument 36 = .ok (.ireturn, 1) := by decide +kernel
theorem gw1 : .selects RLed yLed_requireAccount yLed_requireAccount ∈ xG := List.mem_filter.mpr ⟨List.mem_of_getElem? (i := 1) (by decide +kernel), by decide +kernel⟩
theorem gw2 : .selects RLed yLed_requireUnsealed yLed_requireUnsealed ∈ xG := List.mem_filter.mpr ⟨List.mem_of_getElem? (i := 2) (by decide +kernel), by decide +kernel⟩
theorem gw36 : .initialized RLed ∈ xG := List.mem_filter.mpr ⟨List.mem_of_getElem? (i := 36) (by decide +kernel), by decide +kernel⟩
theorem gw196 : .fieldLink RLed 12 "CallLedger" "codes" "LCallLedger$Codes;" ∈ xG := List.mem_filter.mpr ⟨List.mem_of_getElem? (i := 196) (by decide +kernel), by decide +kernel⟩
theorem gw197 : .fieldLink RLed 19 "CallLedger" "balances" "LCallLedger$Balances;" ∈ xG := List.mem_filter.mpr ⟨List.mem_of_getElem? (i := 197) (by decide +kernel), by decide +kernel⟩
theorem gw198 : .fieldLink RLed 26 "CallLedger" "store" "LCallLedger$Store;" ∈ xG := List.mem_filter.mpr ⟨List.mem_of_getElem? (i := 198) (by decide +kernel), by decide +kernel⟩
theorem gw199 : .fieldLink RLed 35 "CallLedger" "kept" "LCallLedger$Row;" ∈ xG := List.mem_filter.mpr ⟨List.mem_of_getElem? (i := 199) (by decide +kernel), by decide +kernel⟩
theorem gw200 : .fieldLink RLed 44 "CallLedger" "outermost" "LCallLedger$Run;" ∈ xG := List.mem_filter.mpr ⟨List.mem_of_getElem? (i := 200) (by decide +kernel), by decide +kernel⟩
theorem gw201 : .fieldLink RLed 107 "CallLedger" "lastUsed" "I" ∈ xG := List.mem_filter.mpr ⟨List.mem_of_getElem? (i := 201) (by decide +kernel), by decide +kernel⟩
theorem gw202 : .fieldLink RLed 113 "CallLedger" "lastResult" "I" ∈ xG := List.mem_filter.mpr ⟨List.mem_of_getElem? (i := 202) (by decide +kernel), by decide +kernel⟩
theorem gw222 : .methodLink RLed 75 yRow_isFull ∈ xG := List.mem_filter.mpr ⟨List.mem_of_getElem? (i := 222) (by decide +kernel), by decide +kernel⟩
theorem gw226 : .methodLink RLed 79 yRow_add ∈ xG := List.mem_filter.mpr ⟨List.mem_of_getElem? (i := 226) (by decide +kernel), by decide +kernel⟩
theorem gw230 : .methodLink RLed 81 yRow_size ∈ xG := List.mem_filter.mpr ⟨List.mem_of_getElem? (i := 230) (by decide +kernel), by decide +kernel⟩
theorem gw246 : .methodLink RLed 125 ySto_size ∈ xG := List.mem_filter.mpr ⟨List.mem_of_getElem? (i := 246) (by decide +kernel), by decide +kernel⟩
theorem gw247 : .instanceMethod ySto_size ∈ xG := List.mem_filter.mpr ⟨List.mem_of_getElem? (i := 247) (by decide +kernel), by decide +kernel⟩
theorem gw248 : .selects RSto ySto_size ySto_size ∈ xG := List.mem_filter.mpr ⟨List.mem_of_getElem? (i := 248) (by decide +kernel), by decide +kernel⟩
theorem gw249 : .code ySto_size cSto_size 1 (some .int) ∈ xG := List.mem_filter.mpr ⟨List.mem_of_getElem? (i := 249) (by decide +kernel), by decide +kernel⟩
theorem gw258 : .methodLink RLed 134 yBal_total ∈ xG := List.mem_filter.mpr ⟨List.mem_of_getElem? (i := 258) (by decide +kernel), by decide +kernel⟩
theorem gw338 : .methodLink RLed 55 yBal_add ∈ xG := List.mem_filter.mpr ⟨List.mem_of_getElem? (i := 338) (by decide +kernel), by decide +kernel⟩
theorem gw339 : .instanceMethod yBal_add ∈ xG := List.mem_filter.mpr ⟨List.mem_of_getElem? (i := 339) (by decide +kernel), by decide +kernel⟩
theorem gw340 : .selects RBal yBal_add yBal_add ∈ xG := List.mem_filter.mpr ⟨List.mem_of_getElem? (i := 340) (by decide +kernel), by decide +kernel⟩
theorem gw341 : .code yBal_add cBal_add 2 (some .int) ∈ xG := List.mem_filter.mpr ⟨List.mem_of_getElem? (i := 341) (by decide +kernel), by decide +kernel⟩
theorem gw353 : .methodLink RLed 59 yLed_requireAccount ∈ xG := List.mem_filter.mpr ⟨List.mem_of_getElem? (i := 353) (by decide +kernel), by decide +kernel⟩
theorem gw355 : .instanceMethod yLed_requireAccount ∈ xG := List.mem_filter.mpr ⟨List.mem_of_getElem? (i := 355) (by decide +kernel), by decide +kernel⟩
theorem gw356 : .code yLed_requireAccount cLed_requireAccount 2 none ∈ xG := List.mem_filter.mpr ⟨List.mem_of_getElem? (i := 356) (by decide +kernel), by decide +kernel⟩
theorem gw357 : .methodLink RLed 137 yBal_has ∈ xG := List.mem_filter.mpr ⟨List.mem_of_getElem? (i := 357) (by decide +kernel), by decide +kernel⟩
theorem gw377 : .methodLink RLed 62 yLed_requireUnsealed ∈ xG := List.mem_filter.mpr ⟨List.mem_of_getElem? (i := 377) (by decide +kernel), by decide +kernel⟩
theorem gw379 : .instanceMethod yLed_requireUnsealed ∈ xG := List.mem_filter.mpr ⟨List.mem_of_getElem? (i := 379) (by decide +kernel), by decide +kernel⟩
theorem gw380 : .code yLed_requireUnsealed cLed_requireUnsealed 2 none ∈ xG := List.mem_filter.mpr ⟨List.mem_of_getElem? (i := 380) (by decide +kernel), by decide +kernel⟩
theorem gw381 : .methodLink RLed 143 yCod_isSealed ∈ xG := List.mem_filter.mpr ⟨List.mem_of_getElem? (i := 381) (by decide +kernel), by decide +kernel⟩
theorem gw404 : .methodLink RLed 65 yCod_append ∈ xG := List.mem_filter.mpr ⟨List.mem_of_getElem? (i := 404) (by decide +kernel), by decide +kernel⟩
theorem gw405 : .instanceMethod yCod_append ∈ xG := List.mem_filter.mpr ⟨List.mem_of_getElem? (i := 405) (by decide +kernel), by decide +kernel⟩
theorem gw406 : .selects RCod yCod_append yCod_append ∈ xG := List.mem_filter.mpr ⟨List.mem_of_getElem? (i := 406) (by decide +kernel), by decide +kernel⟩
theorem gw407 : .code yCod_append cCod_append 3 (some .int) ∈ xG := List.mem_filter.mpr ⟨List.mem_of_getElem? (i := 407) (by decide +kernel), by decide +kernel⟩
theorem gw415 : .methodLink RLed 69 yCod_close ∈ xG := List.mem_filter.mpr ⟨List.mem_of_getElem? (i := 415) (by decide +kernel), by decide +kernel⟩
theorem gw416 : .instanceMethod yCod_close ∈ xG := List.mem_filter.mpr ⟨List.mem_of_getElem? (i := 416) (by decide +kernel), by decide +kernel⟩
theorem gw417 : .selects RCod yCod_close yCod_close ∈ xG := List.mem_filter.mpr ⟨List.mem_of_getElem? (i := 417) (by decide +kernel), by decide +kernel⟩
theorem gw418 : .code yCod_close cCod_close 4 (some .int) ∈ xG := List.mem_filter.mpr ⟨List.mem_of_getElem? (i := 418) (by decide +kernel), by decide +kernel⟩
theorem gw620 : .methodLink RLed 119 yBal_of ∈ xG := List.mem_filter.mpr ⟨List.mem_of_getElem? (i := 620) (by decide +kernel), by decide +kernel⟩
theorem gw628 : .methodLink RLed 122 ySto_read ∈ xG := List.mem_filter.mpr ⟨List.mem_of_getElem? (i := 628) (by decide +kernel), by decide +kernel⟩
theorem gw637 : .methodLink RLed 131 yRow_at ∈ xG := List.mem_filter.mpr ⟨List.mem_of_getElem? (i := 637) (by decide +kernel), by decide +kernel⟩
set_option maxHeartbeats 4000000 in
set_option maxRecDepth 100000 in
theorem kLed_used (l : Launch) (dC : Nat → ClassId) (dI : Nat → Nat → Nat) (kI kJ kZ : ClassId) (x0 : Nat) (qc : Nat) (qb : Nat) (qs : Nat) (qk : Nat) (r0 : Nat) (lu : Int32) (lr : Int32)  :
    XM stX l yLed_used wLed_used { frames := 0, cells := 0, slots := 0, locals := 0 } (dC, dI) xCl (x_T kI kJ kZ) [(x0, .inr (5, [.ref qc, .ref qb, .ref qs, .ref qk, .ref r0, .int lu, .int lr]))] [.ref x0] 0 0 x_eI (fun (r : Int32) (u : Unit) => r = lu) (fun (u : Unit) => [(x0, .inr (5, [.ref qc, .ref qb, .ref qs, .ref qk, .ref r0, .int lu, .int lr]))]) := by
  refine XM.ofI (cc := cLed_used) (maxL := 1) (by decide) rfl (Nat.le_of_ble_eq_true rfl) ?_
  intro p e s m below meth c A Q hx hb hr hml hown hts hlocks hin hA hK hP hD hX hS ls hl hret
  have hl : lv_has ls 1 [(0, .ref x0)] := hl
  refine lv_aload_n hx hb dLed_used_0 rfl (lv_at hl 0 rfl) ?_
  refine va_get (D := (dC, dI)) (ci := 5) (v := .int lu) (C := RLed) (T := TLed) (N := 7) hx hb hts (fun w h => List.mem_cons_of_mem _ (layLed w h)) hown hK hP 0 rfl rfl 5 (by decide) (hts (.fieldLink RLed 107 "CallLedger" "lastUsed" "I") (List.mem_cons_of_mem _ gw201)) (fun _ h9 => h9) rfl dLed_used_1 ?_
  exact hret lu (()) _ _ _ (rfl) (hP.sub [0] rfl) (hD.sub [0] (by decide) rfl) hS dLed_used_4

set_option maxHeartbeats 4000000 in
set_option maxRecDepth 100000 in
theorem kLed_result (l : Launch) (dC : Nat → ClassId) (dI : Nat → Nat → Nat) (kI kJ kZ : ClassId) (x0 : Nat) (qc : Nat) (qb : Nat) (qs : Nat) (qk : Nat) (r0 : Nat) (lu : Int32) (lr : Int32)  :
    XM stX l yLed_result wLed_result { frames := 0, cells := 0, slots := 0, locals := 0 } (dC, dI) xCl (x_T kI kJ kZ) [(x0, .inr (5, [.ref qc, .ref qb, .ref qs, .ref qk, .ref r0, .int lu, .int lr]))] [.ref x0] 0 0 x_eI (fun (r : Int32) (u : Unit) => r = lr) (fun (u : Unit) => [(x0, .inr (5, [.ref qc, .ref qb, .ref qs, .ref qk, .ref r0, .int lu, .int lr]))]) := by
  refine XM.ofI (cc := cLed_result) (maxL := 1) (by decide) rfl (Nat.le_of_ble_eq_true rfl) ?_
  intro p e s m below meth c A Q hx hb hr hml hown hts hlocks hin hA hK hP hD hX hS ls hl hret
  have hl : lv_has ls 1 [(0, .ref x0)] := hl
  refine lv_aload_n hx hb dLed_result_0 rfl (lv_at hl 0 rfl) ?_
  refine va_get (D := (dC, dI)) (ci := 5) (v := .int lr) (C := RLed) (T := TLed) (N := 7) hx hb hts (fun w h => List.mem_cons_of_mem _ (layLed w h)) hown hK hP 0 rfl rfl 6 (by decide) (hts (.fieldLink RLed 113 "CallLedger" "lastResult" "I") (List.mem_cons_of_mem _ gw202)) (fun _ h9 => h9) rfl dLed_result_1 ?_
  exact hret lr (()) _ _ _ (rfl) (hP.sub [0] rfl) (hD.sub [0] (by decide) rfl) hS dLed_result_4

set_option maxHeartbeats 4000000 in
set_option maxRecDepth 100000 in
theorem kLed_supply (l : Launch) (dC : Nat → ClassId) (dI : Nat → Nat → Nat) (kI kJ kZ : ClassId) (x0 : Nat) (qc : Nat) (qb : Nat) (qs : Nat) (qk : Nat) (r0 : Nat) (lu : Int32) (lr : Int32) (qb1 : Nat) (nA : Nat) (bal : Nat → Int32) (hnA : nA ≤ 24) :
    XM stX l yLed_supply wLed_supply { frames := 1, cells := 0, slots := 0, locals := 22 } (dC, dI) xCl (x_T kI kJ kZ) [(x0, .inr (5, [.ref qc, .ref qb, .ref qs, .ref qk, .ref r0, .int lu, .int lr])), (qb, .inr (0, [.ref qb1, .int (nI nA)])), (qb1, .inl (kI, 24, .inl bal))] [.ref x0] 0 0 x_eI (fun (r : Int32) (u : Unit) => r = l_sum bal nA) (fun (u : Unit) => [(x0, .inr (5, [.ref qc, .ref qb, .ref qs, .ref qk, .ref r0, .int lu, .int lr])), (qb, .inr (0, [.ref qb1, .int (nI nA)])), (qb1, .inl (kI, 24, .inl bal))]) := by
  refine XM.ofI (cc := cLed_supply) (maxL := 1) (by decide) rfl (Nat.le_of_ble_eq_true rfl) ?_
  intro p e s m below meth c A Q hx hb hr hml hown hts hlocks hin hA hK hP hD hX hS ls hl hret
  have hl : lv_has ls 1 [(0, .ref x0)] := hl
  refine lv_aload_n hx hb dLed_supply_0 rfl (lv_at hl 0 rfl) ?_
  refine va_get (D := (dC, dI)) (ci := 5) (v := .ref qb) (C := RLed) (T := TLed) (N := 7) hx hb hts (fun w h => List.mem_cons_of_mem _ (layLed w h)) hown hK hP 0 rfl rfl 1 (by decide) (hts (.fieldLink RLed 19 "CallLedger" "balances" "LCallLedger$Balances;") (List.mem_cons_of_mem _ gw197)) (fun _ h9 => h9) rfl dLed_supply_1 ?_
  refine XM.callVi (As := []) (rest := []) (wr := [(x0, .inr (5, [.ref qc, .ref qb, .ref qs, .ref qk, .ref r0, .int lu, .int lr]))]) stX_ok ⟨hx, hb, hml, hown, hts⟩ (kBal_total l dC dI kI kJ kZ qb qb1 nA bal (by first | assumption | omega)) (cwV 0 hts (x_gV gw258 gw259 gw260 gw38 gw261) rfl rfl rfl (by decide +kernel) ⟨Nat.le_of_ble_eq_true rfl, Nat.le_of_ble_eq_true rfl⟩) hK hP hD hS hA hX [1, 2] [0] rfl rfl (by decide) (by decide) (by decide) rfl rfl rfl rfl hl.1 (Nat.le_of_ble_eq_true rfl) dLed_supply_4 ⟨Nat.le_of_ble_eq_true rfl, Nat.le_of_ble_eq_true rfl⟩ (fun r_2 u_1 H locs hw hP hD hS => ?_)
  obtain rfl := hw
  have hP : va_P (dC, dI) xCl [(x0, .inr (5, [.ref qc, .ref qb, .ref qs, .ref qk, .ref r0, .int lu, .int lr])), (qb, .inr (0, [.ref qb1, .int (nI nA)])), (qb1, .inl (kI, 24, .inl bal))] H := hP
  have hD : va_D A [(x0, .inr (5, [.ref qc, .ref qb, .ref qs, .ref qk, .ref r0, .int lu, .int lr])), (qb, .inr (0, [.ref qb1, .int (nI nA)])), (qb1, .inl (kI, 24, .inl bal))] := hD
  exact hret (l_sum bal nA) (()) _ _ _ (rfl) (hP.sub [0, 1, 2] rfl) (hD.sub [0, 1, 2] (by decide) rfl) hS dLed_supply_7

set_option maxHeartbeats 4000000 in
set_option maxRecDepth 100000 in
theorem kLed_keys (l : Launch) (dC : Nat → ClassId) (dI : Nat → Nat → Nat) (kI kJ kZ : ClassId) (x0 : Nat) (qc : Nat) (qb : Nat) (qs : Nat) (qk : Nat) (r0 : Nat) (lu : Int32) (lr : Int32) (qs1 : Nat) (qs2 : Nat) (qs3 : Nat) (qs4 : Nat) (kn : Nat) (ch : Nat)  :
    XM stX l yLed_keys wLed_keys { frames := 1, cells := 0, slots := 0, locals := 20 } (dC, dI) xCl (x_T kI kJ kZ) [(x0, .inr (5, [.ref qc, .ref qb, .ref qs, .ref qk, .ref r0, .int lu, .int lr])), (qs, .inr (4, [.ref qs1, .ref qs2, .int (nI kn), .ref qs3, .ref qs4, .int (nI ch)]))] [.ref x0] 0 0 x_eI (fun (r : Int32) (u : Unit) => r = nI kn) (fun (u : Unit) => [(x0, .inr (5, [.ref qc, .ref qb, .ref qs, .ref qk, .ref r0, .int lu, .int lr])), (qs, .inr (4, [.ref qs1, .ref qs2, .int (nI kn), .ref qs3, .ref qs4, .int (nI ch)]))]) := by
  refine XM.ofI (cc := cLed_keys) (maxL := 1) (by decide) rfl (Nat.le_of_ble_eq_true rfl) ?_
  intro p e s m below meth c A Q hx hb hr hml hown hts hlocks hin hA hK hP hD hX hS ls hl hret
  have hl : lv_has ls 1 [(0, .ref x0)] := hl
  refine lv_aload_n hx hb dLed_keys_0 rfl (lv_at hl 0 rfl) ?_
  refine va_get (D := (dC, dI)) (ci := 5) (v := .ref qs) (C := RLed) (T := TLed) (N := 7) hx hb hts (fun w h => List.mem_cons_of_mem _ (layLed w h)) hown hK hP 0 rfl rfl 2 (by decide) (hts (.fieldLink RLed 26 "CallLedger" "store" "LCallLedger$Store;") (List.mem_cons_of_mem _ gw198)) (fun _ h9 => h9) rfl dLed_keys_1 ?_
  refine XM.callVi (As := []) (rest := []) (wr := [(x0, .inr (5, [.ref qc, .ref qb, .ref qs, .ref qk, .ref r0, .int lu, .int lr]))]) stX_ok ⟨hx, hb, hml, hown, hts⟩ (kSto_size l dC dI kI kJ kZ qs qs1 qs2 qs3 qs4 kn ch ) (cwV 0 hts (x_gV gw246 gw247 gw248 gw39 gw249) rfl rfl rfl (by decide +kernel) ⟨Nat.le_of_ble_eq_true rfl, Nat.le_of_ble_eq_true rfl⟩) hK hP hD hS hA hX [1] [0] rfl rfl (by decide) (by decide) (by decide) rfl rfl rfl rfl hl.1 (Nat.le_of_ble_eq_true rfl) dLed_keys_4 ⟨Nat.le_of_ble_eq_true rfl, Nat.le_of_ble_eq_true rfl⟩ (fun r_2 u_1 H locs hw hP hD hS => ?_)
  obtain rfl := hw
  have hP : va_P (dC, dI) xCl [(x0, .inr (5, [.ref qc, .ref qb, .ref qs, .ref qk, .ref r0, .int lu, .int lr])), (qs, .inr (4, [.ref qs1, .ref qs2, .int (nI kn), .ref qs3, .ref qs4, .int (nI ch)]))] H := hP
  have hD : va_D A [(x0, .inr (5, [.ref qc, .ref qb, .ref qs, .ref qk, .ref r0, .int lu, .int lr])), (qs, .inr (4, [.ref qs1, .ref qs2, .int (nI kn), .ref qs3, .ref qs4, .int (nI ch)]))] := hD
  exact hret (nI kn) (()) _ _ _ (rfl) (hP.sub [0, 1] rfl) (hD.sub [0, 1] (by decide) rfl) hS dLed_keys_7

set_option maxHeartbeats 4000000 in
set_option maxRecDepth 100000 in
theorem kLed_logged (l : Launch) (dC : Nat → ClassId) (dI : Nat → Nat → Nat) (kI kJ kZ : ClassId) (x0 : Nat) (qc : Nat) (qb : Nat) (qs : Nat) (qk : Nat) (r0 : Nat) (lu : Int32) (lr : Int32) (qk1 : Nat) (ln : Nat)  :
    XM stX l yLed_logged wLed_logged { frames := 1, cells := 0, slots := 0, locals := 20 } (dC, dI) xCl (x_T kI kJ kZ) [(x0, .inr (5, [.ref qc, .ref qb, .ref qs, .ref qk, .ref r0, .int lu, .int lr])), (qk, .inr (2, [.ref qk1, .int (nI ln)]))] [.ref x0] 0 0 x_eI (fun (r : Int32) (u : Unit) => r = nI ln) (fun (u : Unit) => [(x0, .inr (5, [.ref qc, .ref qb, .ref qs, .ref qk, .ref r0, .int lu, .int lr])), (qk, .inr (2, [.ref qk1, .int (nI ln)]))]) := by
  refine XM.ofI (cc := cLed_logged) (maxL := 1) (by decide) rfl (Nat.le_of_ble_eq_true rfl) ?_
  intro p e s m below meth c A Q hx hb hr hml hown hts hlocks hin hA hK hP hD hX hS ls hl hret
  have hl : lv_has ls 1 [(0, .ref x0)] := hl
  refine lv_aload_n hx hb dLed_logged_0 rfl (lv_at hl 0 rfl) ?_
  refine va_get (D := (dC, dI)) (ci := 5) (v := .ref qk) (C := RLed) (T := TLed) (N := 7) hx hb hts (fun w h => List.mem_cons_of_mem _ (layLed w h)) hown hK hP 0 rfl rfl 3 (by decide) (hts (.fieldLink RLed 35 "CallLedger" "kept" "LCallLedger$Row;") (List.mem_cons_of_mem _ gw199)) (fun _ h9 => h9) rfl dLed_logged_1 ?_
  refine XM.callVi (As := []) (rest := []) (wr := [(x0, .inr (5, [.ref qc, .ref qb, .ref qs, .ref qk, .ref r0, .int lu, .int lr]))]) stX_ok ⟨hx, hb, hml, hown, hts⟩ (kRow_size l dC dI kI kJ kZ qk qk1 ln ) (cwV 0 hts (x_gV gw230 gw231 gw232 gw40 gw233) rfl rfl rfl (by decide +kernel) ⟨Nat.le_of_ble_eq_true rfl, Nat.le_of_ble_eq_true rfl⟩) hK hP hD hS hA hX [1] [0] rfl rfl (by decide) (by decide) (by decide) rfl rfl rfl rfl hl.1 (Nat.le_of_ble_eq_true rfl) dLed_logged_4 ⟨Nat.le_of_ble_eq_true rfl, Nat.le_of_ble_eq_true rfl⟩ (fun r_2 u_1 H locs hw hP hD hS => ?_)
  obtain rfl := hw
  have hP : va_P (dC, dI) xCl [(x0, .inr (5, [.ref qc, .ref qb, .ref qs, .ref qk, .ref r0, .int lu, .int lr])), (qk, .inr (2, [.ref qk1, .int (nI ln)]))] H := hP
  have hD : va_D A [(x0, .inr (5, [.ref qc, .ref qb, .ref qs, .ref qk, .ref r0, .int lu, .int lr])), (qk, .inr (2, [.ref qk1, .int (nI ln)]))] := hD
  exact hret (nI ln) (()) _ _ _ (rfl) (hP.sub [0, 1] rfl) (hD.sub [0, 1] (by decide) rfl) hS dLed_logged_7

set_option maxHeartbeats 4000000 in
set_option maxRecDepth 100000 in
theorem kLed_reqA (l : Launch) (dC : Nat → ClassId) (dI : Nat → Nat → Nat) (kI kJ kZ : ClassId) (x0 : Nat) (qc : Nat) (qb : Nat) (qs : Nat) (qk : Nat) (r0 : Nat) (lu : Int32) (lr : Int32) (qb1 : Nat) (nA : Nat) (x : Int32) (hnA : nA ≤ 24) (hxa : xHas nA x = true) :
    XM stX l yLed_requireAccount wLed_requireAccount { frames := 1, cells := 0, slots := 0, locals := 21 } (dC, dI) xCl (x_T kI kJ kZ) [(x0, .inr (5, [.ref qc, .ref qb, .ref qs, .ref qk, .ref r0, .int lu, .int lr])), (qb, .inr (0, [.ref qb1, .int (nI nA)]))] [.ref x0, .int x] 0 0 x_eV (fun (r : Unit) (u : Unit) => True) (fun (u : Unit) => [(x0, .inr (5, [.ref qc, .ref qb, .ref qs, .ref qk, .ref r0, .int lu, .int lr])), (qb, .inr (0, [.ref qb1, .int (nI nA)]))]) := by
  refine XM.ofV (cc := cLed_requireAccount) (maxL := 2) (by decide) rfl (Nat.le_of_ble_eq_true rfl) ?_
  intro p e s m below meth c A Q hx hb hr hml hown hts hlocks hin hA hK hP hD hX hS ls hl hret
  have hl : lv_has ls 2 [(0, .ref x0), (1, .int x)] := hl
  refine lv_aload_n hx hb dLed_requireAccount_0 rfl (lv_at hl 0 rfl) ?_
  refine va_get (D := (dC, dI)) (ci := 5) (v := .ref qb) (C := RLed) (T := TLed) (N := 7) hx hb hts (fun w h => List.mem_cons_of_mem _ (layLed w h)) hown hK hP 0 rfl rfl 1 (by decide) (hts (.fieldLink RLed 19 "CallLedger" "balances" "LCallLedger$Balances;") (List.mem_cons_of_mem _ gw197)) (fun _ h9 => h9) rfl dLed_requireAccount_1 ?_
  refine lv_iload_n hx hb dLed_requireAccount_4 rfl (lv_at hl 1 rfl) ?_
  refine XM.callVi (As := [.int x]) (rest := []) (wr := [(x0, .inr (5, [.ref qc, .ref qb, .ref qs, .ref qk, .ref r0, .int lu, .int lr]))]) stX_ok ⟨hx, hb, hml, hown, hts⟩ (kBal_has l dC dI kI kJ kZ qb qb1 nA x (by first | assumption | omega)) (cwV 1 hts (x_gV gw357 gw358 gw359 gw38 gw360) rfl rfl rfl (by decide +kernel) ⟨Nat.le_of_ble_eq_true rfl, Nat.le_of_ble_eq_true rfl⟩) hK hP hD hS hA hX [1] [0] rfl rfl (by decide) (by decide) (by decide) rfl rfl rfl rfl hl.1 (Nat.le_of_ble_eq_true rfl) dLed_requireAccount_5 ⟨Nat.le_of_ble_eq_true rfl, Nat.le_of_ble_eq_true rfl⟩ (fun r_2 u_1 H locs hw hP hD hS => ?_)
  obtain rfl := hw
  have hP : va_P (dC, dI) xCl [(x0, .inr (5, [.ref qc, .ref qb, .ref qs, .ref qk, .ref r0, .int lu, .int lr])), (qb, .inr (0, [.ref qb1, .int (nI nA)]))] H := hP
  have hD : va_D A [(x0, .inr (5, [.ref qc, .ref qb, .ref qs, .ref qk, .ref r0, .int lu, .int lr])), (qb, .inr (0, [.ref qb1, .int (nI nA)]))] := hD
  refine lv_if_ne (tgt := 21) hx hb dLed_requireAccount_8 (by decide) (fun c8 => ?_) (fun c8 => ?_)
  · have c8 : (xHas nA x = true) := Classical.not_not.mp (fun z9 => c8 (x_i10.mpr z9))
    exact hret  (()) _ _ _ (trivial) (hP.sub [0, 1] rfl) (hD.sub [0, 1] (by decide) rfl) hS dLed_requireAccount_21
  · have c8 : xHas nA x = false := Bool.eq_false_iff.mpr (x_i10.mp c8)
    exact absurd hxa (by rw [c8]; decide)

set_option maxHeartbeats 4000000 in
set_option maxRecDepth 100000 in
theorem kLed_reqU (l : Launch) (dC : Nat → ClassId) (dI : Nat → Nat → Nat) (kI kJ kZ : ClassId) (x0 : Nat) (qc : Nat) (qb : Nat) (qs : Nat) (qk : Nat) (r0 : Nat) (lu : Int32) (lr : Int32) (qc1 : Nat) (qc2 : Nat) (qc3 : Nat) (cw : Nat → Int32) (lc : Nat → Nat) (z : Nat → Bool) (a : Nat) (ha : a < 24) (hz : z a = false) :
    XM stX l yLed_requireUnsealed wLed_requireUnsealed { frames := 2, cells := 0, slots := 0, locals := 42 } (dC, dI) xCl (x_T kI kJ kZ) [(x0, .inr (5, [.ref qc, .ref qb, .ref qs, .ref qk, .ref r0, .int lu, .int lr])), (qc, .inr (1, [.ref qc1, .ref qc2, .ref qc3])), (qc1, .inl (kI, 3840, .inl cw)), (qc2, .inl (kI, 24, .inl (fun j => nI (lc j)))), (qc3, .inl (kZ, 24, .inl (fun j => x_b (z j))))] [.ref x0, .int (nI a)] 0 0 x_eV (fun (r : Unit) (u : Unit) => True) (fun (u : Unit) => [(x0, .inr (5, [.ref qc, .ref qb, .ref qs, .ref qk, .ref r0, .int lu, .int lr])), (qc, .inr (1, [.ref qc1, .ref qc2, .ref qc3])), (qc1, .inl (kI, 3840, .inl cw)), (qc2, .inl (kI, 24, .inl (fun j => nI (lc j)))), (qc3, .inl (kZ, 24, .inl (fun j => x_b (z j))))]) := by
  refine XM.ofV (cc := cLed_requireUnsealed) (maxL := 2) (by decide) rfl (Nat.le_of_ble_eq_true rfl) ?_
  intro p e s m below meth c A Q hx hb hr hml hown hts hlocks hin hA hK hP hD hX hS ls hl hret
  have hl : lv_has ls 2 [(0, .ref x0), (1, .int (nI a))] := hl
  refine lv_aload_n hx hb dLed_requireUnsealed_0 rfl (lv_at hl 0 rfl) ?_
  refine va_get (D := (dC, dI)) (ci := 5) (v := .ref qc) (C := RLed) (T := TLed) (N := 7) hx hb hts (fun w h => List.mem_cons_of_mem _ (layLed w h)) hown hK hP 0 rfl rfl 0 (by decide) (hts (.fieldLink RLed 12 "CallLedger" "codes" "LCallLedger$Codes;") (List.mem_cons_of_mem _ gw196)) (fun _ h9 => h9) rfl dLed_requireUnsealed_1 ?_
  refine lv_iload_n hx hb dLed_requireUnsealed_4 rfl (lv_at hl 1 rfl) ?_
  refine XM.callVi (As := [.int (nI a)]) (rest := []) (wr := [(x0, .inr (5, [.ref qc, .ref qb, .ref qs, .ref qk, .ref r0, .int lu, .int lr]))]) stX_ok ⟨hx, hb, hml, hown, hts⟩ (kCod_isSealed l dC dI kI kJ kZ qc qc1 qc2 qc3 cw lc z a (by first | assumption | omega)) (cwV 1 hts (x_gV gw381 gw382 gw383 gw37 gw384) rfl rfl rfl (by decide +kernel) ⟨Nat.le_of_ble_eq_true rfl, Nat.le_of_ble_eq_true rfl⟩) hK hP hD hS hA hX [1, 2, 3, 4] [0] rfl rfl (by decide) (by decide) (by decide) rfl rfl rfl rfl hl.1 (Nat.le_of_ble_eq_true rfl) dLed_requireUnsealed_5 ⟨Nat.le_of_ble_eq_true rfl, Nat.le_of_ble_eq_true rfl⟩ (fun r_2 u_1 H locs hw hP hD hS => ?_)
  obtain rfl := hw
  have hP : va_P (dC, dI) xCl [(x0, .inr (5, [.ref qc, .ref qb, .ref qs, .ref qk, .ref r0, .int lu, .int lr])), (qc, .inr (1, [.ref qc1, .ref qc2, .ref qc3])), (qc1, .inl (kI, 3840, .inl cw)), (qc2, .inl (kI, 24, .inl (fun j => nI (lc j)))), (qc3, .inl (kZ, 24, .inl (fun j => x_b (z j))))] H := hP
  have hD : va_D A [(x0, .inr (5, [.ref qc, .ref qb, .ref qs, .ref qk, .ref r0, .int lu, .int lr])), (qc, .inr (1, [.ref qc1, .ref qc2, .ref qc3])), (qc1, .inl (kI, 3840, .inl cw)), (qc2, .inl (kI, 24, .inl (fun j => nI (lc j)))), (qc3, .inl (kZ, 24, .inl (fun j => x_b (z j))))] := hD
  refine lv_if_eq (tgt := 21) hx hb dLed_requireUnsealed_8 (by decide) (fun c8 => ?_) (fun c8 => ?_)
  · have c8 : (z a) = false := x_b0.mp c8
    exact hret  (()) _ _ _ (trivial) (hP.sub [0, 1, 2, 3, 4] rfl) (hD.sub [0, 1, 2, 3, 4] (by decide) rfl) hS dLed_requireUnsealed_21
  · have c8 : (z a) = true := Bool.of_not_eq_false (fun z9 => c8 (x_b0.mpr z9))
    exact absurd c8 (by rw [hz]; decide)

set_option maxHeartbeats 4000000 in
set_option maxRecDepth 100000 in
theorem kLed_open (l : Launch) (dC : Nat → ClassId) (dI : Nat → Nat → Nat) (kI kJ kZ : ClassId) (x0 : Nat) (qc : Nat) (qb : Nat) (qs : Nat) (qk : Nat) (r0 : Nat) (lu : Int32) (lr : Int32) (qb1 : Nat) (nA : Nat) (bal : Nat → Int32) (x : Int32) (hnA : nA ≤ 24) (hxa : ¬ x < 0) :
    XM stX l yLed_open wLed_open { frames := 2, cells := 0, slots := 0, locals := 43 } (dC, dI) xCl (x_T kI kJ kZ) [(x0, .inr (5, [.ref qc, .ref qb, .ref qs, .ref qk, .ref r0, .int lu, .int lr])), (qb, .inr (0, [.ref qb1, .int (nI nA)])), (qb1, .inl (kI, 24, .inl bal))] [.ref x0, .int x] 0 0 x_eI (fun (r : Int32) (u : (Nat → Int32) × Nat) => (r = if nA < 24 ∧ (l_sum bal nA).toInt64 + x.toInt64 ≤ 2147483647 then nI nA else -1) ∧ (u.1 = if nA < 24 ∧ (l_sum bal nA).toInt64 + x.toInt64 ≤ 2147483647 then upd bal nA x else bal) ∧ (u.2 = if nA < 24 ∧ (l_sum bal nA).toInt64 + x.toInt64 ≤ 2147483647 then nA + 1 else nA)) (fun (u : (Nat → Int32) × Nat) => [(x0, .inr (5, [.ref qc, .ref qb, .ref qs, .ref qk, .ref r0, .int lu, .int lr])), (qb, .inr (0, [.ref qb1, .int (nI u.2)])), (qb1, .inl (kI, 24, .inl u.1))]) := by
  refine XM.ofI (cc := cLed_open) (maxL := 2) (by decide) rfl (Nat.le_of_ble_eq_true rfl) ?_
  intro p e s m below meth c A Q hx hb hr hml hown hts hlocks hin hA hK hP hD hX hS ls hl hret
  have hl : lv_has ls 2 [(0, .ref x0), (1, .int x)] := hl
  refine lv_iload_n hx hb dLed_open_0 rfl (lv_at hl 1 rfl) ?_
  refine lv_if_ge (tgt := 14) hx hb dLed_open_1 (by decide) (fun c1 => ?_) (fun c1 => ?_)
  · refine lv_aload_n hx hb dLed_open_14 rfl (lv_at hl 0 rfl) ?_
    refine va_get (D := (dC, dI)) (ci := 5) (v := .ref qb) (C := RLed) (T := TLed) (N := 7) hx hb hts (fun w h => List.mem_cons_of_mem _ (layLed w h)) hown hK hP 0 rfl rfl 1 (by decide) (hts (.fieldLink RLed 19 "CallLedger" "balances" "LCallLedger$Balances;") (List.mem_cons_of_mem _ gw197)) (fun _ h9 => h9) rfl dLed_open_15 ?_
    refine lv_iload_n hx hb dLed_open_18 rfl (lv_at hl 1 rfl) ?_
    refine XM.callVi (As := [.int x]) (rest := []) (wr := [(x0, .inr (5, [.ref qc, .ref qb, .ref qs, .ref qk, .ref r0, .int lu, .int lr]))]) stX_ok ⟨hx, hb, hml, hown, hts⟩ (kBal_add l dC dI kI kJ kZ qb qb1 nA bal x (by first | assumption | omega)) (cwV 1 hts (x_gV gw338 gw339 gw340 gw38 gw341) rfl rfl rfl (by decide +kernel) ⟨Nat.le_of_ble_eq_true rfl, Nat.le_of_ble_eq_true rfl⟩) hK hP hD hS hA hX [1, 2] [0] rfl rfl (by decide) (by decide) (by decide) rfl rfl rfl rfl hl.1 (Nat.le_of_ble_eq_true rfl) dLed_open_19 ⟨Nat.le_of_ble_eq_true rfl, Nat.le_of_ble_eq_true rfl⟩ (fun r_2 u_1 H locs hw hP hD hS => ?_)
    obtain ⟨f2_3, n2_4⟩ := u_1
    try dsimp only at hw
    obtain ⟨rfl, rfl, rfl⟩ := hw
    have hP : va_P (dC, dI) xCl [(x0, .inr (5, [.ref qc, .ref qb, .ref qs, .ref qk, .ref r0, .int lu, .int lr])), (qb, .inr (0, [.ref qb1, .int (nI (if nA < 24 ∧ (l_sum bal nA).toInt64 + x.toInt64 ≤ 2147483647 then nA + 1 else nA))])), (qb1, .inl (kI, 24, .inl (if nA < 24 ∧ (l_sum bal nA).toInt64 + x.toInt64 ≤ 2147483647 then upd bal nA x else bal)))] H := hP
    have hD : va_D A [(x0, .inr (5, [.ref qc, .ref qb, .ref qs, .ref qk, .ref r0, .int lu, .int lr])), (qb, .inr (0, [.ref qb1, .int (nI (if nA < 24 ∧ (l_sum bal nA).toInt64 + x.toInt64 ≤ 2147483647 then nA + 1 else nA))])), (qb1, .inl (kI, 24, .inl (if nA < 24 ∧ (l_sum bal nA).toInt64 + x.toInt64 ≤ 2147483647 then upd bal nA x else bal)))] := hD
    exact hret (if nA < 24 ∧ (l_sum bal nA).toInt64 + x.toInt64 ≤ 2147483647 then nI nA else -1) ((if nA < 24 ∧ (l_sum bal nA).toInt64 + x.toInt64 ≤ 2147483647 then upd bal nA x else bal, if nA < 24 ∧ (l_sum bal nA).toInt64 + x.toInt64 ≤ 2147483647 then nA + 1 else nA)) _ _ _ (⟨rfl, rfl, rfl⟩) (hP.sub [0, 1, 2] rfl) (hD.sub [0, 1, 2] (by decide) rfl) hS dLed_open_22
  · exact absurd (Int32.not_le.mp c1) hxa

set_option maxHeartbeats 4000000 in
set_option maxRecDepth 100000 in
theorem kLed_code (l : Launch) (dC : Nat → ClassId) (dI : Nat → Nat → Nat) (kI kJ kZ : ClassId) (x0 : Nat) (qc : Nat) (qb : Nat) (qs : Nat) (qk : Nat) (r0 : Nat) (lu : Int32) (lr : Int32) (qb1 : Nat) (nA : Nat) (qc1 : Nat) (qc2 : Nat) (qc3 : Nat) (cw : Nat → Int32) (lc : Nat → Nat) (z : Nat → Bool) (a : Nat) (w : Int32) (hnA : nA ≤ 24) (ha : a < nA) (hln : ∀ j, j < 24 → lc j ≤ 160) (hz : z a = false) :
    XM stX l yLed_code wLed_code { frames := 3, cells := 0, slots := 0, locals := 63 } (dC, dI) xCl (x_T kI kJ kZ) [(x0, .inr (5, [.ref qc, .ref qb, .ref qs, .ref qk, .ref r0, .int lu, .int lr])), (qb, .inr (0, [.ref qb1, .int (nI nA)])), (qc, .inr (1, [.ref qc1, .ref qc2, .ref qc3])), (qc1, .inl (kI, 3840, .inl cw)), (qc2, .inl (kI, 24, .inl (fun j => nI (lc j)))), (qc3, .inl (kZ, 24, .inl (fun j => x_b (z j))))] [.ref x0, .int (nI a), .int w] 0 0 x_eI (fun (r : Int32) (u : (Nat → Int32) × (Nat → Nat)) => (r = if lc a < 160 then nI (lc a + 1) else -1) ∧ (u.1 = if lc a < 160 then upd cw (a * 160 + lc a) w else cw) ∧ (u.2 = if lc a < 160 then va_up lc a (lc a + 1) else lc)) (fun (u : (Nat → Int32) × (Nat → Nat)) => [(x0, .inr (5, [.ref qc, .ref qb, .ref qs, .ref qk, .ref r0, .int lu, .int lr])), (qb, .inr (0, [.ref qb1, .int (nI nA)])), (qc, .inr (1, [.ref qc1, .ref qc2, .ref qc3])), (qc1, .inl (kI, 3840, .inl u.1)), (qc2, .inl (kI, 24, .inl (fun j => nI (u.2 j)))), (qc3, .inl (kZ, 24, .inl (fun j => x_b (z j))))]) := by
  refine XM.ofI (cc := cLed_code) (maxL := 3) (by decide) rfl (Nat.le_of_ble_eq_true rfl) ?_
  intro p e s m below meth c A Q hx hb hr hml hown hts hlocks hin hA hK hP hD hX hS ls hl hret
  have hl : lv_has ls 3 [(0, .ref x0), (1, .int (nI a)), (2, .int w)] := hl
  refine lv_aload_n hx hb dLed_code_0 rfl (lv_at hl 0 rfl) ?_
  refine lv_iload_n hx hb dLed_code_1 rfl (lv_at hl 1 rfl) ?_
  refine XM.callVv (As := [.int (nI a)]) (rest := []) (wr := [(qc, .inr (1, [.ref qc1, .ref qc2, .ref qc3])), (qc1, .inl (kI, 3840, .inl cw)), (qc2, .inl (kI, 24, .inl (fun j => nI (lc j)))), (qc3, .inl (kZ, 24, .inl (fun j => x_b (z j))))]) stX_ok ⟨hx, hb, hml, hown, hts⟩ (kLed_reqA l dC dI kI kJ kZ x0 qc qb qs qk r0 lu lr qb1 nA (nI a) (by first | assumption | omega) (xHas_nI ha (by omega))) (cwV 1 hts (x_gV gw353 gw355 gw1 gw36 gw356) rfl rfl rfl (by decide +kernel) ⟨Nat.le_of_ble_eq_true rfl, Nat.le_of_ble_eq_true rfl⟩) hK hP hD hS hA hX [0, 1] [2, 3, 4, 5] rfl rfl (by decide) (by decide) (by decide) rfl rfl rfl rfl hl.1 (Nat.le_of_ble_eq_true rfl) dLed_code_2 ⟨Nat.le_of_ble_eq_true rfl, Nat.le_of_ble_eq_true rfl⟩ (fun u_1 H locs hw hP hD hS => ?_)
  have hP : va_P (dC, dI) xCl [(qc, .inr (1, [.ref qc1, .ref qc2, .ref qc3])), (qc1, .inl (kI, 3840, .inl cw)), (qc2, .inl (kI, 24, .inl (fun j => nI (lc j)))), (qc3, .inl (kZ, 24, .inl (fun j => x_b (z j)))), (x0, .inr (5, [.ref qc, .ref qb, .ref qs, .ref qk, .ref r0, .int lu, .int lr])), (qb, .inr (0, [.ref qb1, .int (nI nA)]))] H := hP
  have hD : va_D A [(qc, .inr (1, [.ref qc1, .ref qc2, .ref qc3])), (qc1, .inl (kI, 3840, .inl cw)), (qc2, .inl (kI, 24, .inl (fun j => nI (lc j)))), (qc3, .inl (kZ, 24, .inl (fun j => x_b (z j)))), (x0, .inr (5, [.ref qc, .ref qb, .ref qs, .ref qk, .ref r0, .int lu, .int lr])), (qb, .inr (0, [.ref qb1, .int (nI nA)]))] := hD
  refine lv_aload_n hx hb dLed_code_5 rfl (lv_at hl 0 rfl) ?_
  refine lv_iload_n hx hb dLed_code_6 rfl (lv_at hl 1 rfl) ?_
  refine XM.callVv (As := [.int (nI a)]) (rest := []) (wr := [(qb, .inr (0, [.ref qb1, .int (nI nA)]))]) stX_ok ⟨hx, hb, hml, hown, hts⟩ (kLed_reqU l dC dI kI kJ kZ x0 qc qb qs qk r0 lu lr qc1 qc2 qc3 cw lc z a (by first | assumption | omega) (by first | assumption | omega)) (cwV 1 hts (x_gV gw377 gw379 gw2 gw36 gw380) rfl rfl rfl (by decide +kernel) ⟨Nat.le_of_ble_eq_true rfl, Nat.le_of_ble_eq_true rfl⟩) hK hP hD hS hA hX [4, 0, 1, 2, 3] [5] rfl rfl (by decide) (by decide) (by decide) rfl rfl rfl rfl hl.1 (Nat.le_of_ble_eq_true rfl) dLed_code_7 ⟨Nat.le_of_ble_eq_true rfl, Nat.le_of_ble_eq_true rfl⟩ (fun u_3 H locs hw hP hD hS => ?_)
  have hP : va_P (dC, dI) xCl [(qb, .inr (0, [.ref qb1, .int (nI nA)])), (x0, .inr (5, [.ref qc, .ref qb, .ref qs, .ref qk, .ref r0, .int lu, .int lr])), (qc, .inr (1, [.ref qc1, .ref qc2, .ref qc3])), (qc1, .inl (kI, 3840, .inl cw)), (qc2, .inl (kI, 24, .inl (fun j => nI (lc j)))), (qc3, .inl (kZ, 24, .inl (fun j => x_b (z j))))] H := hP
  have hD : va_D A [(qb, .inr (0, [.ref qb1, .int (nI nA)])), (x0, .inr (5, [.ref qc, .ref qb, .ref qs, .ref qk, .ref r0, .int lu, .int lr])), (qc, .inr (1, [.ref qc1, .ref qc2, .ref qc3])), (qc1, .inl (kI, 3840, .inl cw)), (qc2, .inl (kI, 24, .inl (fun j => nI (lc j)))), (qc3, .inl (kZ, 24, .inl (fun j => x_b (z j))))] := hD
  refine lv_aload_n hx hb dLed_code_10 rfl (lv_at hl 0 rfl) ?_
  refine va_get (D := (dC, dI)) (ci := 5) (v := .ref qc) (C := RLed) (T := TLed) (N := 7) hx hb hts (fun w h => List.mem_cons_of_mem _ (layLed w h)) hown hK hP 1 rfl rfl 0 (by decide) (hts (.fieldLink RLed 12 "CallLedger" "codes" "LCallLedger$Codes;") (List.mem_cons_of_mem _ gw196)) (fun _ h9 => h9) rfl dLed_code_11 ?_
  refine lv_iload_n hx hb dLed_code_14 rfl (lv_at hl 1 rfl) ?_
  refine lv_iload_n hx hb dLed_code_15 rfl (lv_at hl 2 rfl) ?_
  refine XM.callVi (As := [.int (nI a), .int w]) (rest := []) (wr := [(qb, .inr (0, [.ref qb1, .int (nI nA)])), (x0, .inr (5, [.ref qc, .ref qb, .ref qs, .ref qk, .ref r0, .int lu, .int lr]))]) stX_ok ⟨hx, hb, hml, hown, hts⟩ (kCod_append l dC dI kI kJ kZ qc qc1 qc2 qc3 cw lc z a w (by first | assumption | omega) (by first | assumption | omega)) (cwV 2 hts (x_gV gw404 gw405 gw406 gw37 gw407) rfl rfl rfl (by decide +kernel) ⟨Nat.le_of_ble_eq_true rfl, Nat.le_of_ble_eq_true rfl⟩) hK hP hD hS hA hX [2, 3, 4, 5] [0, 1] rfl rfl (by decide) (by decide) (by decide) rfl rfl rfl rfl hl.1 (Nat.le_of_ble_eq_true rfl) dLed_code_16 ⟨Nat.le_of_ble_eq_true rfl, Nat.le_of_ble_eq_true rfl⟩ (fun r_6 u_5 H locs hw hP hD hS => ?_)
  obtain ⟨cw2_7, ln2_8⟩ := u_5
  try dsimp only at hw
  obtain ⟨rfl, rfl, rfl⟩ := hw
  have hP : va_P (dC, dI) xCl [(qb, .inr (0, [.ref qb1, .int (nI nA)])), (x0, .inr (5, [.ref qc, .ref qb, .ref qs, .ref qk, .ref r0, .int lu, .int lr])), (qc, .inr (1, [.ref qc1, .ref qc2, .ref qc3])), (qc1, .inl (kI, 3840, .inl (if lc a < 160 then upd cw (a * 160 + lc a) w else cw))), (qc2, .inl (kI, 24, .inl (fun j => nI ((if lc a < 160 then va_up lc a (lc a + 1) else lc) j)))), (qc3, .inl (kZ, 24, .inl (fun j => x_b (z j))))] H := hP
  have hD : va_D A [(qb, .inr (0, [.ref qb1, .int (nI nA)])), (x0, .inr (5, [.ref qc, .ref qb, .ref qs, .ref qk, .ref r0, .int lu, .int lr])), (qc, .inr (1, [.ref qc1, .ref qc2, .ref qc3])), (qc1, .inl (kI, 3840, .inl (if lc a < 160 then upd cw (a * 160 + lc a) w else cw))), (qc2, .inl (kI, 24, .inl (fun j => nI ((if lc a < 160 then va_up lc a (lc a + 1) else lc) j)))), (qc3, .inl (kZ, 24, .inl (fun j => x_b (z j))))] := hD
  exact hret (if lc a < 160 then nI (lc a + 1) else -1) ((if lc a < 160 then upd cw (a * 160 + lc a) w else cw, if lc a < 160 then va_up lc a (lc a + 1) else lc)) _ _ _ (⟨rfl, rfl, rfl⟩) (hP.sub [1, 0, 2, 3, 4, 5] rfl) (hD.sub [1, 0, 2, 3, 4, 5] (by decide) rfl) hS dLed_code_19

set_option maxHeartbeats 4000000 in
set_option maxRecDepth 100000 in
theorem kLed_seal (l : Launch) (dC : Nat → ClassId) (dI : Nat → Nat → Nat) (kI kJ kZ : ClassId) (x0 : Nat) (qc : Nat) (qb : Nat) (qs : Nat) (qk : Nat) (r0 : Nat) (lu : Int32) (lr : Int32) (qb1 : Nat) (nA : Nat) (qc1 : Nat) (qc2 : Nat) (qc3 : Nat) (cw : Nat → Int32) (lc : Nat → Nat) (z : Nat → Bool) (a : Nat) (hnA : nA ≤ 24) (ha : a < nA) (hln : ∀ j, j < 24 → lc j ≤ 160) (hz : z a = false) :
    XM stX l yLed_seal wLed_seal { frames := 3, cells := 0, slots := 0, locals := 66 } (dC, dI) xCl (x_T kI kJ kZ) [(x0, .inr (5, [.ref qc, .ref qb, .ref qs, .ref qk, .ref r0, .int lu, .int lr])), (qb, .inr (0, [.ref qb1, .int (nI nA)])), (qc, .inr (1, [.ref qc1, .ref qc2, .ref qc3])), (qc1, .inl (kI, 3840, .inl cw)), (qc2, .inl (kI, 24, .inl (fun j => nI (lc j)))), (qc3, .inl (kZ, 24, .inl (fun j => x_b (z j))))] [.ref x0, .int (nI a)] 0 0 x_eI (fun (r : Int32) (u : (Nat → Nat) × (Nat → Bool)) => (r = match wBad cw a (lc a) 0 (lc a) with | none => -1 | some k => nI k) ∧ (u.1 = match wBad cw a (lc a) 0 (lc a) with | none => lc | some _ => va_up lc a 0) ∧ (u.2 = match wBad cw a (lc a) 0 (lc a) with | none => va_up z a true | some _ => z)) (fun (u : (Nat → Nat) × (Nat → Bool)) => [(x0, .inr (5, [.ref qc, .ref qb, .ref qs, .ref qk, .ref r0, .int lu, .int lr])), (qb, .inr (0, [.ref qb1, .int (nI nA)])), (qc, .inr (1, [.ref qc1, .ref qc2, .ref qc3])), (qc1, .inl (kI, 3840, .inl cw)), (qc2, .inl (kI, 24, .inl (fun j => nI (u.1 j)))), (qc3, .inl (kZ, 24, .inl (fun j => x_b (u.2 j))))]) := by
  refine XM.ofI (cc := cLed_seal) (maxL := 2) (by decide) rfl (Nat.le_of_ble_eq_true rfl) ?_
  intro p e s m below meth c A Q hx hb hr hml hown hts hlocks hin hA hK hP hD hX hS ls hl hret
  have hl : lv_has ls 2 [(0, .ref x0), (1, .int (nI a))] := hl
  refine lv_aload_n hx hb dLed_seal_0 rfl (lv_at hl 0 rfl) ?_
  refine lv_iload_n hx hb dLed_seal_1 rfl (lv_at hl 1 rfl) ?_
  refine XM.callVv (As := [.int (nI a)]) (rest := []) (wr := [(qc, .inr (1, [.ref qc1, .ref qc2, .ref qc3])), (qc1, .inl (kI, 3840, .inl cw)), (qc2, .inl (kI, 24, .inl (fun j => nI (lc j)))), (qc3, .inl (kZ, 24, .inl (fun j => x_b (z j))))]) stX_ok ⟨hx, hb, hml, hown, hts⟩ (kLed_reqA l dC dI kI kJ kZ x0 qc qb qs qk r0 lu lr qb1 nA (nI a) (by first | assumption | omega) (xHas_nI ha (by omega))) (cwV 1 hts (x_gV gw353 gw355 gw1 gw36 gw356) rfl rfl rfl (by decide +kernel) ⟨Nat.le_of_ble_eq_true rfl, Nat.le_of_ble_eq_true rfl⟩) hK hP hD hS hA hX [0, 1] [2, 3, 4, 5] rfl rfl (by decide) (by decide) (by decide) rfl rfl rfl rfl hl.1 (Nat.le_of_ble_eq_true rfl) dLed_seal_2 ⟨Nat.le_of_ble_eq_true rfl, Nat.le_of_ble_eq_true rfl⟩ (fun u_1 H locs hw hP hD hS => ?_)
  have hP : va_P (dC, dI) xCl [(qc, .inr (1, [.ref qc1, .ref qc2, .ref qc3])), (qc1, .inl (kI, 3840, .inl cw)), (qc2, .inl (kI, 24, .inl (fun j => nI (lc j)))), (qc3, .inl (kZ, 24, .inl (fun j => x_b (z j)))), (x0, .inr (5, [.ref qc, .ref qb, .ref qs, .ref qk, .ref r0, .int lu, .int lr])), (qb, .inr (0, [.ref qb1, .int (nI nA)]))] H := hP
  have hD : va_D A [(qc, .inr (1, [.ref qc1, .ref qc2, .ref qc3])), (qc1, .inl (kI, 3840, .inl cw)), (qc2, .inl (kI, 24, .inl (fun j => nI (lc j)))), (qc3, .inl (kZ, 24, .inl (fun j => x_b (z j)))), (x0, .inr (5, [.ref qc, .ref qb, .ref qs, .ref qk, .ref r0, .int lu, .int lr])), (qb, .inr (0, [.ref qb1, .int (nI nA)]))] := hD
  refine lv_aload_n hx hb dLed_seal_5 rfl (lv_at hl 0 rfl) ?_
  refine lv_iload_n hx hb dLed_seal_6 rfl (lv_at hl 1 rfl) ?_
  refine XM.callVv (As := [.int (nI a)]) (rest := []) (wr := [(qb, .inr (0, [.ref qb1, .int (nI nA)]))]) stX_ok ⟨hx, hb, hml, hown, hts⟩ (kLed_reqU l dC dI kI kJ kZ x0 qc qb qs qk r0 lu lr qc1 qc2 qc3 cw lc z a (by first | assumption | omega) (by first | assumption | omega)) (cwV 1 hts (x_gV gw377 gw379 gw2 gw36 gw380) rfl rfl rfl (by decide +kernel) ⟨Nat.le_of_ble_eq_true rfl, Nat.le_of_ble_eq_true rfl⟩) hK hP hD hS hA hX [4, 0, 1, 2, 3] [5] rfl rfl (by decide) (by decide) (by decide) rfl rfl rfl rfl hl.1 (Nat.le_of_ble_eq_true rfl) dLed_seal_7 ⟨Nat.le_of_ble_eq_true rfl, Nat.le_of_ble_eq_true rfl⟩ (fun u_3 H locs hw hP hD hS => ?_)
  have hP : va_P (dC, dI) xCl [(qb, .inr (0, [.ref qb1, .int (nI nA)])), (x0, .inr (5, [.ref qc, .ref qb, .ref qs, .ref qk, .ref r0, .int lu, .int lr])), (qc, .inr (1, [.ref qc1, .ref qc2, .ref qc3])), (qc1, .inl (kI, 3840, .inl cw)), (qc2, .inl (kI, 24, .inl (fun j => nI (lc j)))), (qc3, .inl (kZ, 24, .inl (fun j => x_b (z j))))] H := hP
  have hD : va_D A [(qb, .inr (0, [.ref qb1, .int (nI nA)])), (x0, .inr (5, [.ref qc, .ref qb, .ref qs, .ref qk, .ref r0, .int lu, .int lr])), (qc, .inr (1, [.ref qc1, .ref qc2, .ref qc3])), (qc1, .inl (kI, 3840, .inl cw)), (qc2, .inl (kI, 24, .inl (fun j => nI (lc j)))), (qc3, .inl (kZ, 24, .inl (fun j => x_b (z j))))] := hD
  refine lv_aload_n hx hb dLed_seal_10 rfl (lv_at hl 0 rfl) ?_
  refine va_get (D := (dC, dI)) (ci := 5) (v := .ref qc) (C := RLed) (T := TLed) (N := 7) hx hb hts (fun w h => List.mem_cons_of_mem _ (layLed w h)) hown hK hP 1 rfl rfl 0 (by decide) (hts (.fieldLink RLed 12 "CallLedger" "codes" "LCallLedger$Codes;") (List.mem_cons_of_mem _ gw196)) (fun _ h9 => h9) rfl dLed_seal_11 ?_
  refine lv_iload_n hx hb dLed_seal_14 rfl (lv_at hl 1 rfl) ?_
  refine XM.callVi (As := [.int (nI a)]) (rest := []) (wr := [(qb, .inr (0, [.ref qb1, .int (nI nA)])), (x0, .inr (5, [.ref qc, .ref qb, .ref qs, .ref qk, .ref r0, .int lu, .int lr]))]) stX_ok ⟨hx, hb, hml, hown, hts⟩ (kCod_close l dC dI kI kJ kZ qc qc1 qc2 qc3 cw lc z a (by first | assumption | omega) (by first | assumption | omega)) (cwV 1 hts (x_gV gw415 gw416 gw417 gw37 gw418) rfl rfl rfl (by decide +kernel) ⟨Nat.le_of_ble_eq_true rfl, Nat.le_of_ble_eq_true rfl⟩) hK hP hD hS hA hX [2, 3, 4, 5] [0, 1] rfl rfl (by decide) (by decide) (by decide) rfl rfl rfl rfl hl.1 (Nat.le_of_ble_eq_true rfl) dLed_seal_15 ⟨Nat.le_of_ble_eq_true rfl, Nat.le_of_ble_eq_true rfl⟩ (fun r_6 u_5 H locs hw hP hD hS => ?_)
  obtain ⟨ln2_7, z2_8⟩ := u_5
  try dsimp only at hw
  obtain ⟨rfl, rfl, rfl⟩ := hw
  have hP : va_P (dC, dI) xCl [(qb, .inr (0, [.ref qb1, .int (nI nA)])), (x0, .inr (5, [.ref qc, .ref qb, .ref qs, .ref qk, .ref r0, .int lu, .int lr])), (qc, .inr (1, [.ref qc1, .ref qc2, .ref qc3])), (qc1, .inl (kI, 3840, .inl cw)), (qc2, .inl (kI, 24, .inl (fun j => nI ((match wBad cw a (lc a) 0 (lc a) with | none => lc | some _ => va_up lc a 0) j)))), (qc3, .inl (kZ, 24, .inl (fun j => x_b ((match wBad cw a (lc a) 0 (lc a) with | none => va_up z a true | some _ => z) j))))] H := hP
  have hD : va_D A [(qb, .inr (0, [.ref qb1, .int (nI nA)])), (x0, .inr (5, [.ref qc, .ref qb, .ref qs, .ref qk, .ref r0, .int lu, .int lr])), (qc, .inr (1, [.ref qc1, .ref qc2, .ref qc3])), (qc1, .inl (kI, 3840, .inl cw)), (qc2, .inl (kI, 24, .inl (fun j => nI ((match wBad cw a (lc a) 0 (lc a) with | none => lc | some _ => va_up lc a 0) j)))), (qc3, .inl (kZ, 24, .inl (fun j => x_b ((match wBad cw a (lc a) 0 (lc a) with | none => va_up z a true | some _ => z) j))))] := hD
  exact hret (match wBad cw a (lc a) 0 (lc a) with | none => -1 | some k => nI k) ((match wBad cw a (lc a) 0 (lc a) with | none => lc | some _ => va_up lc a 0, match wBad cw a (lc a) 0 (lc a) with | none => va_up z a true | some _ => z)) _ _ _ (⟨rfl, rfl, rfl⟩) (hP.sub [1, 0, 2, 3, 4, 5] rfl) (hD.sub [1, 0, 2, 3, 4, 5] (by decide) rfl) hS dLed_seal_18

set_option maxHeartbeats 4000000 in
set_option maxRecDepth 100000 in
theorem kLed_balance (l : Launch) (dC : Nat → ClassId) (dI : Nat → Nat → Nat) (kI kJ kZ : ClassId) (x0 : Nat) (qc : Nat) (qb : Nat) (qs : Nat) (qk : Nat) (r0 : Nat) (lu : Int32) (lr : Int32) (qb1 : Nat) (nA : Nat) (bal : Nat → Int32) (x : Int32) (hnA : nA ≤ 24) (hxa : xHas nA x = true) :
    XM stX l yLed_balance wLed_balance { frames := 2, cells := 0, slots := 0, locals := 42 } (dC, dI) xCl (x_T kI kJ kZ) [(x0, .inr (5, [.ref qc, .ref qb, .ref qs, .ref qk, .ref r0, .int lu, .int lr])), (qb, .inr (0, [.ref qb1, .int (nI nA)])), (qb1, .inl (kI, 24, .inl bal))] [.ref x0, .int x] 0 0 x_eI (fun (r : Int32) (u : Unit) => r = if xHas nA x = true then bal x.toNatClampNeg else -1) (fun (u : Unit) => [(x0, .inr (5, [.ref qc, .ref qb, .ref qs, .ref qk, .ref r0, .int lu, .int lr])), (qb, .inr (0, [.ref qb1, .int (nI nA)])), (qb1, .inl (kI, 24, .inl bal))]) := by
  refine XM.ofI (cc := cLed_balance) (maxL := 2) (by decide) rfl (Nat.le_of_ble_eq_true rfl) ?_
  intro p e s m below meth c A Q hx hb hr hml hown hts hlocks hin hA hK hP hD hX hS ls hl hret
  have hl : lv_has ls 2 [(0, .ref x0), (1, .int x)] := hl
  refine lv_aload_n hx hb dLed_balance_0 rfl (lv_at hl 0 rfl) ?_
  refine lv_iload_n hx hb dLed_balance_1 rfl (lv_at hl 1 rfl) ?_
  refine XM.callVv (As := [.int x]) (rest := []) (wr := [(qb1, .inl (kI, 24, .inl bal))]) stX_ok ⟨hx, hb, hml, hown, hts⟩ (kLed_reqA l dC dI kI kJ kZ x0 qc qb qs qk r0 lu lr qb1 nA x (by first | assumption | omega) (by first | assumption | omega)) (cwV 1 hts (x_gV gw353 gw355 gw1 gw36 gw356) rfl rfl rfl (by decide +kernel) ⟨Nat.le_of_ble_eq_true rfl, Nat.le_of_ble_eq_true rfl⟩) hK hP hD hS hA hX [0, 1] [2] rfl rfl (by decide) (by decide) (by decide) rfl rfl rfl rfl hl.1 (Nat.le_of_ble_eq_true rfl) dLed_balance_2 ⟨Nat.le_of_ble_eq_true rfl, Nat.le_of_ble_eq_true rfl⟩ (fun u_1 H locs hw hP hD hS => ?_)
  have hP : va_P (dC, dI) xCl [(qb1, .inl (kI, 24, .inl bal)), (x0, .inr (5, [.ref qc, .ref qb, .ref qs, .ref qk, .ref r0, .int lu, .int lr])), (qb, .inr (0, [.ref qb1, .int (nI nA)]))] H := hP
  have hD : va_D A [(qb1, .inl (kI, 24, .inl bal)), (x0, .inr (5, [.ref qc, .ref qb, .ref qs, .ref qk, .ref r0, .int lu, .int lr])), (qb, .inr (0, [.ref qb1, .int (nI nA)]))] := hD
  refine lv_aload_n hx hb dLed_balance_5 rfl (lv_at hl 0 rfl) ?_
  refine va_get (D := (dC, dI)) (ci := 5) (v := .ref qb) (C := RLed) (T := TLed) (N := 7) hx hb hts (fun w h => List.mem_cons_of_mem _ (layLed w h)) hown hK hP 1 rfl rfl 1 (by decide) (hts (.fieldLink RLed 19 "CallLedger" "balances" "LCallLedger$Balances;") (List.mem_cons_of_mem _ gw197)) (fun _ h9 => h9) rfl dLed_balance_6 ?_
  refine lv_iload_n hx hb dLed_balance_9 rfl (lv_at hl 1 rfl) ?_
  refine XM.callVi (As := [.int x]) (rest := []) (wr := [(x0, .inr (5, [.ref qc, .ref qb, .ref qs, .ref qk, .ref r0, .int lu, .int lr]))]) stX_ok ⟨hx, hb, hml, hown, hts⟩ (kBal_of l dC dI kI kJ kZ qb qb1 nA bal x (by first | assumption | omega)) (cwV 1 hts (x_gV gw620 gw583 gw584 gw38 gw585) rfl rfl rfl (by decide +kernel) ⟨Nat.le_of_ble_eq_true rfl, Nat.le_of_ble_eq_true rfl⟩) hK hP hD hS hA hX [2, 0] [1] rfl rfl (by decide) (by decide) (by decide) rfl rfl rfl rfl hl.1 (Nat.le_of_ble_eq_true rfl) dLed_balance_10 ⟨Nat.le_of_ble_eq_true rfl, Nat.le_of_ble_eq_true rfl⟩ (fun r_4 u_3 H locs hw hP hD hS => ?_)
  obtain rfl := hw
  have hP : va_P (dC, dI) xCl [(x0, .inr (5, [.ref qc, .ref qb, .ref qs, .ref qk, .ref r0, .int lu, .int lr])), (qb, .inr (0, [.ref qb1, .int (nI nA)])), (qb1, .inl (kI, 24, .inl bal))] H := hP
  have hD : va_D A [(x0, .inr (5, [.ref qc, .ref qb, .ref qs, .ref qk, .ref r0, .int lu, .int lr])), (qb, .inr (0, [.ref qb1, .int (nI nA)])), (qb1, .inl (kI, 24, .inl bal))] := hD
  exact hret (if xHas nA x = true then bal x.toNatClampNeg else -1) (()) _ _ _ (rfl) (hP.sub [0, 1, 2] rfl) (hD.sub [0, 1, 2] (by decide) rfl) hS dLed_balance_13

set_option maxHeartbeats 4000000 in
set_option maxRecDepth 100000 in
theorem kLed_storage (l : Launch) (dC : Nat → ClassId) (dI : Nat → Nat → Nat) (kI kJ kZ : ClassId) (x0 : Nat) (qc : Nat) (qb : Nat) (qs : Nat) (qk : Nat) (r0 : Nat) (lu : Int32) (lr : Int32) (qb1 : Nat) (nA : Nat) (qs1 : Nat) (qs2 : Nat) (qs3 : Nat) (qs4 : Nat) (kn : Nat) (ch : Nat) (sl : Nat → Int64) (nu : Nat → Int32) (σ : Int64 → Int32) (x : Int32) (k : Int32) (hnA : nA ≤ 24) (hxa : xHas nA x = true) (hst : ST sl nu kn σ) :
    XM stX l yLed_storage wLed_storage { frames := 2, cells := 0, slots := 0, locals := 49 } (dC, dI) xCl (x_T kI kJ kZ) [(x0, .inr (5, [.ref qc, .ref qb, .ref qs, .ref qk, .ref r0, .int lu, .int lr])), (qb, .inr (0, [.ref qb1, .int (nI nA)])), (qs, .inr (4, [.ref qs1, .ref qs2, .int (nI kn), .ref qs3, .ref qs4, .int (nI ch)])), (qs1, .inl (kJ, 500, .inr (.inl sl))), (qs2, .inl (kI, 500, .inl nu))] [.ref x0, .int x, .int k] 0 0 x_eI (fun (r : Int32) (u : Unit) => r = σ (xSlot x k)) (fun (u : Unit) => [(x0, .inr (5, [.ref qc, .ref qb, .ref qs, .ref qk, .ref r0, .int lu, .int lr])), (qb, .inr (0, [.ref qb1, .int (nI nA)])), (qs, .inr (4, [.ref qs1, .ref qs2, .int (nI kn), .ref qs3, .ref qs4, .int (nI ch)])), (qs1, .inl (kJ, 500, .inr (.inl sl))), (qs2, .inl (kI, 500, .inl nu))]) := by
  refine XM.ofI (cc := cLed_storage) (maxL := 3) (by decide) rfl (Nat.le_of_ble_eq_true rfl) ?_
  intro p e s m below meth c A Q hx hb hr hml hown hts hlocks hin hA hK hP hD hX hS ls hl hret
  have hl : lv_has ls 3 [(0, .ref x0), (1, .int x), (2, .int k)] := hl
  refine lv_aload_n hx hb dLed_storage_0 rfl (lv_at hl 0 rfl) ?_
  refine lv_iload_n hx hb dLed_storage_1 rfl (lv_at hl 1 rfl) ?_
  refine XM.callVv (As := [.int x]) (rest := []) (wr := [(qs, .inr (4, [.ref qs1, .ref qs2, .int (nI kn), .ref qs3, .ref qs4, .int (nI ch)])), (qs1, .inl (kJ, 500, .inr (.inl sl))), (qs2, .inl (kI, 500, .inl nu))]) stX_ok ⟨hx, hb, hml, hown, hts⟩ (kLed_reqA l dC dI kI kJ kZ x0 qc qb qs qk r0 lu lr qb1 nA x (by first | assumption | omega) (by first | assumption | omega)) (cwV 1 hts (x_gV gw353 gw355 gw1 gw36 gw356) rfl rfl rfl (by decide +kernel) ⟨Nat.le_of_ble_eq_true rfl, Nat.le_of_ble_eq_true rfl⟩) hK hP hD hS hA hX [0, 1] [2, 3, 4] rfl rfl (by decide) (by decide) (by decide) rfl rfl rfl rfl hl.1 (Nat.le_of_ble_eq_true rfl) dLed_storage_2 ⟨Nat.le_of_ble_eq_true rfl, Nat.le_of_ble_eq_true rfl⟩ (fun u_1 H locs hw hP hD hS => ?_)
  have hP : va_P (dC, dI) xCl [(qs, .inr (4, [.ref qs1, .ref qs2, .int (nI kn), .ref qs3, .ref qs4, .int (nI ch)])), (qs1, .inl (kJ, 500, .inr (.inl sl))), (qs2, .inl (kI, 500, .inl nu)), (x0, .inr (5, [.ref qc, .ref qb, .ref qs, .ref qk, .ref r0, .int lu, .int lr])), (qb, .inr (0, [.ref qb1, .int (nI nA)]))] H := hP
  have hD : va_D A [(qs, .inr (4, [.ref qs1, .ref qs2, .int (nI kn), .ref qs3, .ref qs4, .int (nI ch)])), (qs1, .inl (kJ, 500, .inr (.inl sl))), (qs2, .inl (kI, 500, .inl nu)), (x0, .inr (5, [.ref qc, .ref qb, .ref qs, .ref qk, .ref r0, .int lu, .int lr])), (qb, .inr (0, [.ref qb1, .int (nI nA)]))] := hD
  refine lv_aload_n hx hb dLed_storage_5 rfl (lv_at hl 0 rfl) ?_
  refine va_get (D := (dC, dI)) (ci := 5) (v := .ref qs) (C := RLed) (T := TLed) (N := 7) hx hb hts (fun w h => List.mem_cons_of_mem _ (layLed w h)) hown hK hP 3 rfl rfl 2 (by decide) (hts (.fieldLink RLed 26 "CallLedger" "store" "LCallLedger$Store;") (List.mem_cons_of_mem _ gw198)) (fun _ h9 => h9) rfl dLed_storage_6 ?_
  refine lv_iload_n hx hb dLed_storage_9 rfl (lv_at hl 1 rfl) ?_
  refine lv_iload_n hx hb dLed_storage_10 rfl (lv_at hl 2 rfl) ?_
  refine XM.callVi (As := [.int x, .int k]) (rest := []) (wr := [(x0, .inr (5, [.ref qc, .ref qb, .ref qs, .ref qk, .ref r0, .int lu, .int lr])), (qb, .inr (0, [.ref qb1, .int (nI nA)]))]) stX_ok ⟨hx, hb, hml, hown, hts⟩ (kSto_read l dC dI kI kJ kZ qs qs1 qs2 qs3 qs4 kn ch sl nu σ x k (by first | assumption | omega)) (cwV 2 hts (x_gV gw628 gw517 gw518 gw39 gw519) rfl rfl rfl (by decide +kernel) ⟨Nat.le_of_ble_eq_true rfl, Nat.le_of_ble_eq_true rfl⟩) hK hP hD hS hA hX [0, 1, 2] [3, 4] rfl rfl (by decide) (by decide) (by decide) rfl rfl rfl rfl hl.1 (Nat.le_of_ble_eq_true rfl) dLed_storage_11 ⟨Nat.le_of_ble_eq_true rfl, Nat.le_of_ble_eq_true rfl⟩ (fun r_4 u_3 H locs hw hP hD hS => ?_)
  obtain rfl := hw
  have hP : va_P (dC, dI) xCl [(x0, .inr (5, [.ref qc, .ref qb, .ref qs, .ref qk, .ref r0, .int lu, .int lr])), (qb, .inr (0, [.ref qb1, .int (nI nA)])), (qs, .inr (4, [.ref qs1, .ref qs2, .int (nI kn), .ref qs3, .ref qs4, .int (nI ch)])), (qs1, .inl (kJ, 500, .inr (.inl sl))), (qs2, .inl (kI, 500, .inl nu))] H := hP
  have hD : va_D A [(x0, .inr (5, [.ref qc, .ref qb, .ref qs, .ref qk, .ref r0, .int lu, .int lr])), (qb, .inr (0, [.ref qb1, .int (nI nA)])), (qs, .inr (4, [.ref qs1, .ref qs2, .int (nI kn), .ref qs3, .ref qs4, .int (nI ch)])), (qs1, .inl (kJ, 500, .inr (.inl sl))), (qs2, .inl (kI, 500, .inl nu))] := hD
  exact hret (σ (xSlot x k)) (()) _ _ _ (rfl) (hP.sub [0, 1, 2, 3, 4] rfl) (hD.sub [0, 1, 2, 3, 4] (by decide) rfl) hS dLed_storage_14

set_option maxHeartbeats 4000000 in
set_option maxRecDepth 100000 in
theorem kLed_log (l : Launch) (dC : Nat → ClassId) (dI : Nat → Nat → Nat) (kI kJ kZ : ClassId) (x0 : Nat) (qc : Nat) (qb : Nat) (qs : Nat) (qk : Nat) (r0 : Nat) (lu : Int32) (lr : Int32) (qk1 : Nat) (lf : Nat → Int32) (ln : Nat) (j : Nat) (hln : ln ≤ 300) (hj : j < ln) :
    XM stX l yLed_log wLed_log { frames := 1, cells := 0, slots := 0, locals := 21 } (dC, dI) xCl (x_T kI kJ kZ) [(x0, .inr (5, [.ref qc, .ref qb, .ref qs, .ref qk, .ref r0, .int lu, .int lr])), (qk, .inr (2, [.ref qk1, .int (nI ln)])), (qk1, .inl (kI, 300, .inl lf))] [.ref x0, .int (nI j)] 0 0 x_eI (fun (r : Int32) (u : Unit) => r = lf j) (fun (u : Unit) => [(x0, .inr (5, [.ref qc, .ref qb, .ref qs, .ref qk, .ref r0, .int lu, .int lr])), (qk, .inr (2, [.ref qk1, .int (nI ln)])), (qk1, .inl (kI, 300, .inl lf))]) := by
  refine XM.ofI (cc := cLed_log) (maxL := 2) (by decide) rfl (Nat.le_of_ble_eq_true rfl) ?_
  intro p e s m below meth c A Q hx hb hr hml hown hts hlocks hin hA hK hP hD hX hS ls hl hret
  have hl : lv_has ls 2 [(0, .ref x0), (1, .int (nI j))] := hl
  refine lv_iload_n hx hb dLed_log_0 rfl (lv_at hl 1 rfl) ?_
  refine lv_if_lt (tgt := 15) hx hb dLed_log_1 (by decide) (fun c1 => ?_) (fun c1 => ?_)
  · have c1 : j < 0 := (nI_ltI (a := j) (b := 0) (by omega) (by omega)).mp c1
    exfalso; omega
  · have c1 : ¬ (j < 0) := fun z9 => c1 ((nI_ltI (a := j) (b := 0) (by omega) (by omega)).mpr z9)
    refine lv_iload_n hx hb dLed_log_4 rfl (lv_at hl 1 rfl) ?_
    refine lv_aload_n hx hb dLed_log_5 rfl (lv_at hl 0 rfl) ?_
    refine va_get (D := (dC, dI)) (ci := 5) (v := .ref qk) (C := RLed) (T := TLed) (N := 7) hx hb hts (fun w h => List.mem_cons_of_mem _ (layLed w h)) hown hK hP 0 rfl rfl 3 (by decide) (hts (.fieldLink RLed 35 "CallLedger" "kept" "LCallLedger$Row;") (List.mem_cons_of_mem _ gw199)) (fun _ h9 => h9) rfl dLed_log_6 ?_
    refine XM.callVi (As := []) (rest := [.int (nI j)]) (wr := [(x0, .inr (5, [.ref qc, .ref qb, .ref qs, .ref qk, .ref r0, .int lu, .int lr])), (qk1, .inl (kI, 300, .inl lf))]) stX_ok ⟨hx, hb, hml, hown, hts⟩ (kRow_size l dC dI kI kJ kZ qk qk1 ln ) (cwV 0 hts (x_gV gw230 gw231 gw232 gw40 gw233) rfl rfl rfl (by decide +kernel) ⟨Nat.le_of_ble_eq_true rfl, Nat.le_of_ble_eq_true rfl⟩) hK hP hD hS hA hX [1] [0, 2] rfl rfl (by decide) (by decide) (by decide) rfl rfl rfl rfl hl.1 (Nat.le_of_ble_eq_true rfl) dLed_log_9 ⟨Nat.le_of_ble_eq_true rfl, Nat.le_of_ble_eq_true rfl⟩ (fun r_2 u_1 H locs hw hP hD hS => ?_)
    obtain rfl := hw
    have hP : va_P (dC, dI) xCl [(x0, .inr (5, [.ref qc, .ref qb, .ref qs, .ref qk, .ref r0, .int lu, .int lr])), (qk1, .inl (kI, 300, .inl lf)), (qk, .inr (2, [.ref qk1, .int (nI ln)]))] H := hP
    have hD : va_D A [(x0, .inr (5, [.ref qc, .ref qb, .ref qs, .ref qk, .ref r0, .int lu, .int lr])), (qk1, .inl (kI, 300, .inl lf)), (qk, .inr (2, [.ref qk1, .int (nI ln)]))] := hD
    refine lv_icmp_lt (tgt := 25) hx hb dLed_log_12 (by decide) (fun c12 => ?_) (fun c12 => ?_)
    · have c12 : j < ln := (nI_ltI (a := j) (b := ln) (by omega) (by omega)).mp c12
      refine lv_aload_n hx hb dLed_log_25 rfl (lv_at hl 0 rfl) ?_
      refine va_get (D := (dC, dI)) (ci := 5) (v := .ref qk) (C := RLed) (T := TLed) (N := 7) hx hb hts (fun w h => List.mem_cons_of_mem _ (layLed w h)) hown hK hP 0 rfl rfl 3 (by decide) (hts (.fieldLink RLed 35 "CallLedger" "kept" "LCallLedger$Row;") (List.mem_cons_of_mem _ gw199)) (fun _ h9 => h9) rfl dLed_log_26 ?_
      refine lv_iload_n hx hb dLed_log_29 rfl (lv_at hl 1 rfl) ?_
      refine XM.callVi (As := [.int (nI j)]) (rest := []) (wr := [(x0, .inr (5, [.ref qc, .ref qb, .ref qs, .ref qk, .ref r0, .int lu, .int lr]))]) stX_ok ⟨hx, hb, hml, hown, hts⟩ (kRow_at l dC dI kI kJ kZ qk qk1 300 ln lf j (by first | assumption | omega) (by first | assumption | omega) (by first | assumption | omega)) (cwV 1 hts (x_gV gw637 gw513 gw514 gw40 gw515) rfl rfl rfl (by decide +kernel) ⟨Nat.le_of_ble_eq_true rfl, Nat.le_of_ble_eq_true rfl⟩) hK hP hD hS hA hX [2, 1] [0] rfl rfl (by decide) (by decide) (by decide) rfl rfl rfl rfl hl.1 (Nat.le_of_ble_eq_true rfl) dLed_log_30 ⟨Nat.le_of_ble_eq_true rfl, Nat.le_of_ble_eq_true rfl⟩ (fun r_4 u_3 H locs hw hP hD hS => ?_)
      obtain rfl := hw
      have hP : va_P (dC, dI) xCl [(x0, .inr (5, [.ref qc, .ref qb, .ref qs, .ref qk, .ref r0, .int lu, .int lr])), (qk, .inr (2, [.ref qk1, .int (nI ln)])), (qk1, .inl (kI, 300, .inl lf))] H := hP
      have hD : va_D A [(x0, .inr (5, [.ref qc, .ref qb, .ref qs, .ref qk, .ref r0, .int lu, .int lr])), (qk, .inr (2, [.ref qk1, .int (nI ln)])), (qk1, .inl (kI, 300, .inl lf))] := hD
      exact hret (lf j) (()) _ _ _ (rfl) (hP.sub [0, 1, 2] rfl) (hD.sub [0, 1, 2] (by decide) rfl) hS dLed_log_33
    · have c12 : ¬ (j < ln) := fun z9 => c12 ((nI_ltI (a := j) (b := ln) (by omega) (by omega)).mpr z9)
      exfalso; omega

set_option maxHeartbeats 4000000 in
set_option maxRecDepth 100000 in
theorem kLed_argument (l : Launch) (dC : Nat → ClassId) (dI : Nat → Nat → Nat) (kI kJ kZ : ClassId) (x0 : Nat) (qc : Nat) (qb : Nat) (qs : Nat) (qk : Nat) (r0 : Nat) (lu : Int32) (lr : Int32) (iv : Value) (rs : Nat) (ra : Nat) (rb : Nat) (f1 : Int32) (f2 : Int32) (f3 : Int32) (f4 : Int32) (f5 : Int32) (f6 : Int32) (f7 : Int32) (f8 : Int32) (f9 : Int32) (ra1 : Nat) (rf : Nat → Int32) (rn : Nat) (v : Int32) (hrn : rn < 8) :
    XM stX l yLed_argument wLed_argument { frames := 1, cells := 0, slots := 0, locals := 21 } (dC, dI) xCl (x_T kI kJ kZ) [(x0, .inr (5, [.ref qc, .ref qb, .ref qs, .ref qk, .ref r0, .int lu, .int lr])), (r0, .inr (3, [.ref qc, .ref qb, .ref qs, .ref qk, iv, .ref rs, .ref ra, .ref rb, .int f1, .int f2, .int f3, .int f4, .int f5, .int f6, .int f7, .int f8, .int f9])), (ra, .inr (2, [.ref ra1, .int (nI rn)])), (ra1, .inl (kI, 8, .inl rf))] [.ref x0, .int v] 0 0 x_eI (fun (r : Int32) (u : Unit) => r = nI (rn + 1)) (fun (u : Unit) => [(x0, .inr (5, [.ref qc, .ref qb, .ref qs, .ref qk, .ref r0, .int lu, .int lr])), (r0, .inr (3, [.ref qc, .ref qb, .ref qs, .ref qk, iv, .ref rs, .ref ra, .ref rb, .int f1, .int f2, .int f3, .int f4, .int f5, .int f6, .int f7, .int f8, .int f9])), (ra, .inr (2, [.ref ra1, .int (nI (rn + 1))])), (ra1, .inl (kI, 8, .inl (upd rf rn v)))]) := by
  refine XM.ofI (cc := cLed_argument) (maxL := 2) (by decide) rfl (Nat.le_of_ble_eq_true rfl) ?_
  intro p e s m below meth c A Q hx hb hr hml hown hts hlocks hin hA hK hP hD hX hS ls hl hret
  have hl : lv_has ls 2 [(0, .ref x0), (1, .int v)] := hl
  refine lv_aload_n hx hb dLed_argument_0 rfl (lv_at hl 0 rfl) ?_
  refine va_get (D := (dC, dI)) (ci := 5) (v := .ref r0) (C := RLed) (T := TLed) (N := 7) hx hb hts (fun w h => List.mem_cons_of_mem _ (layLed w h)) hown hK hP 0 rfl rfl 4 (by decide) (hts (.fieldLink RLed 44 "CallLedger" "outermost" "LCallLedger$Run;") (List.mem_cons_of_mem _ gw200)) (fun _ h9 => h9) rfl dLed_argument_1 ?_
  refine va_getN (D := (dC, dI)) (ci := 3) (v := .ref ra) (C := RRun) (T := TRun) (N := 17) hx hb hts (fun w h => List.mem_cons_of_mem _ (layRun w h)) hown hK hP 1 rfl rfl 6 (by decide) (hX.nest (w := .fieldLinkNest RLed 72 "CallLedger$Run" "arguments" "LCallLedger$Row;" "CallLedger") (by decide +kernel)) (fun _ h9 => h9) rfl dLed_argument_4 ?_
  refine XM.callVi (As := []) (rest := []) (wr := [(x0, .inr (5, [.ref qc, .ref qb, .ref qs, .ref qk, .ref r0, .int lu, .int lr])), (r0, .inr (3, [.ref qc, .ref qb, .ref qs, .ref qk, iv, .ref rs, .ref ra, .ref rb, .int f1, .int f2, .int f3, .int f4, .int f5, .int f6, .int f7, .int f8, .int f9]))]) stX_ok ⟨hx, hb, hml, hown, hts⟩ (kRow_isFull l dC dI kI kJ kZ ra ra1 8 rn rf (by first | assumption | omega) (by first | assumption | omega)) (cwV 0 hts (x_gV gw222 gw223 gw224 gw40 gw225) rfl rfl rfl (by decide +kernel) ⟨Nat.le_of_ble_eq_true rfl, Nat.le_of_ble_eq_true rfl⟩) hK hP hD hS hA hX [2, 3] [0, 1] rfl rfl (by decide) (by decide) (by decide) rfl rfl rfl rfl hl.1 (Nat.le_of_ble_eq_true rfl) dLed_argument_7 ⟨Nat.le_of_ble_eq_true rfl, Nat.le_of_ble_eq_true rfl⟩ (fun r_2 u_1 H locs hw hP hD hS => ?_)
  obtain rfl := hw
  have hP : va_P (dC, dI) xCl [(x0, .inr (5, [.ref qc, .ref qb, .ref qs, .ref qk, .ref r0, .int lu, .int lr])), (r0, .inr (3, [.ref qc, .ref qb, .ref qs, .ref qk, iv, .ref rs, .ref ra, .ref rb, .int f1, .int f2, .int f3, .int f4, .int f5, .int f6, .int f7, .int f8, .int f9])), (ra, .inr (2, [.ref ra1, .int (nI rn)])), (ra1, .inl (kI, 8, .inl rf))] H := hP
  have hD : va_D A [(x0, .inr (5, [.ref qc, .ref qb, .ref qs, .ref qk, .ref r0, .int lu, .int lr])), (r0, .inr (3, [.ref qc, .ref qb, .ref qs, .ref qk, iv, .ref rs, .ref ra, .ref rb, .int f1, .int f2, .int f3, .int f4, .int f5, .int f6, .int f7, .int f8, .int f9])), (ra, .inr (2, [.ref ra1, .int (nI rn)])), (ra1, .inl (kI, 8, .inl rf))] := hD
  refine lv_if_eq (tgt := 15) hx hb dLed_argument_10 (by decide) (fun c10 => ?_) (fun c10 => ?_)
  · have c10 : (rn < 8) := x_i01.mp c10
    refine lv_aload_n hx hb dLed_argument_15 rfl (lv_at hl 0 rfl) ?_
    refine va_get (D := (dC, dI)) (ci := 5) (v := .ref r0) (C := RLed) (T := TLed) (N := 7) hx hb hts (fun w h => List.mem_cons_of_mem _ (layLed w h)) hown hK hP 0 rfl rfl 4 (by decide) (hts (.fieldLink RLed 44 "CallLedger" "outermost" "LCallLedger$Run;") (List.mem_cons_of_mem _ gw200)) (fun _ h9 => h9) rfl dLed_argument_16 ?_
    refine va_getN (D := (dC, dI)) (ci := 3) (v := .ref ra) (C := RRun) (T := TRun) (N := 17) hx hb hts (fun w h => List.mem_cons_of_mem _ (layRun w h)) hown hK hP 1 rfl rfl 6 (by decide) (hX.nest (w := .fieldLinkNest RLed 72 "CallLedger$Run" "arguments" "LCallLedger$Row;" "CallLedger") (by decide +kernel)) (fun _ h9 => h9) rfl dLed_argument_19 ?_
    refine lv_iload_n hx hb dLed_argument_22 rfl (lv_at hl 1 rfl) ?_
    refine XM.callVv (As := [.int v]) (rest := []) (wr := [(x0, .inr (5, [.ref qc, .ref qb, .ref qs, .ref qk, .ref r0, .int lu, .int lr])), (r0, .inr (3, [.ref qc, .ref qb, .ref qs, .ref qk, iv, .ref rs, .ref ra, .ref rb, .int f1, .int f2, .int f3, .int f4, .int f5, .int f6, .int f7, .int f8, .int f9]))]) stX_ok ⟨hx, hb, hml, hown, hts⟩ (kRow_add l dC dI kI kJ kZ ra ra1 8 rn rf v (by first | assumption | omega) (by first | assumption | omega) (by first | assumption | omega)) (cwV 1 hts (x_gV gw226 gw227 gw228 gw40 gw229) rfl rfl rfl (by decide +kernel) ⟨Nat.le_of_ble_eq_true rfl, Nat.le_of_ble_eq_true rfl⟩) hK hP hD hS hA hX [2, 3] [0, 1] rfl rfl (by decide) (by decide) (by decide) rfl rfl rfl rfl hl.1 (Nat.le_of_ble_eq_true rfl) dLed_argument_23 ⟨Nat.le_of_ble_eq_true rfl, Nat.le_of_ble_eq_true rfl⟩ (fun u_3 H locs hw hP hD hS => ?_)
    have hP : va_P (dC, dI) xCl [(x0, .inr (5, [.ref qc, .ref qb, .ref qs, .ref qk, .ref r0, .int lu, .int lr])), (r0, .inr (3, [.ref qc, .ref qb, .ref qs, .ref qk, iv, .ref rs, .ref ra, .ref rb, .int f1, .int f2, .int f3, .int f4, .int f5, .int f6, .int f7, .int f8, .int f9])), (ra, .inr (2, [.ref ra1, .int (nI (rn + 1))])), (ra1, .inl (kI, 8, .inl (upd rf rn v)))] H := hP
    have hD : va_D A [(x0, .inr (5, [.ref qc, .ref qb, .ref qs, .ref qk, .ref r0, .int lu, .int lr])), (r0, .inr (3, [.ref qc, .ref qb, .ref qs, .ref qk, iv, .ref rs, .ref ra, .ref rb, .int f1, .int f2, .int f3, .int f4, .int f5, .int f6, .int f7, .int f8, .int f9])), (ra, .inr (2, [.ref ra1, .int (nI (rn + 1))])), (ra1, .inl (kI, 8, .inl (upd rf rn v)))] := hD
    refine lv_aload_n hx hb dLed_argument_26 rfl (lv_at hl 0 rfl) ?_
    refine va_get (D := (dC, dI)) (ci := 5) (v := .ref r0) (C := RLed) (T := TLed) (N := 7) hx hb hts (fun w h => List.mem_cons_of_mem _ (layLed w h)) hown hK hP 0 rfl rfl 4 (by decide) (hts (.fieldLink RLed 44 "CallLedger" "outermost" "LCallLedger$Run;") (List.mem_cons_of_mem _ gw200)) (fun _ h9 => h9) rfl dLed_argument_27 ?_
    refine va_getN (D := (dC, dI)) (ci := 3) (v := .ref ra) (C := RRun) (T := TRun) (N := 17) hx hb hts (fun w h => List.mem_cons_of_mem _ (layRun w h)) hown hK hP 1 rfl rfl 6 (by decide) (hX.nest (w := .fieldLinkNest RLed 72 "CallLedger$Run" "arguments" "LCallLedger$Row;" "CallLedger") (by decide +kernel)) (fun _ h9 => h9) rfl dLed_argument_30 ?_
    refine XM.callVi (As := []) (rest := []) (wr := [(x0, .inr (5, [.ref qc, .ref qb, .ref qs, .ref qk, .ref r0, .int lu, .int lr])), (r0, .inr (3, [.ref qc, .ref qb, .ref qs, .ref qk, iv, .ref rs, .ref ra, .ref rb, .int f1, .int f2, .int f3, .int f4, .int f5, .int f6, .int f7, .int f8, .int f9])), (ra1, .inl (kI, 8, .inl (upd rf rn v)))]) stX_ok ⟨hx, hb, hml, hown, hts⟩ (kRow_size l dC dI kI kJ kZ ra ra1 (rn + 1) ) (cwV 0 hts (x_gV gw230 gw231 gw232 gw40 gw233) rfl rfl rfl (by decide +kernel) ⟨Nat.le_of_ble_eq_true rfl, Nat.le_of_ble_eq_true rfl⟩) hK hP hD hS hA hX [2] [0, 1, 3] rfl rfl (by decide) (by decide) (by decide) rfl rfl rfl rfl hl.1 (Nat.le_of_ble_eq_true rfl) dLed_argument_33 ⟨Nat.le_of_ble_eq_true rfl, Nat.le_of_ble_eq_true rfl⟩ (fun r_6 u_5 H locs hw hP hD hS => ?_)
    obtain rfl := hw
    have hP : va_P (dC, dI) xCl [(x0, .inr (5, [.ref qc, .ref qb, .ref qs, .ref qk, .ref r0, .int lu, .int lr])), (r0, .inr (3, [.ref qc, .ref qb, .ref qs, .ref qk, iv, .ref rs, .ref ra, .ref rb, .int f1, .int f2, .int f3, .int f4, .int f5, .int f6, .int f7, .int f8, .int f9])), (ra1, .inl (kI, 8, .inl (upd rf rn v))), (ra, .inr (2, [.ref ra1, .int (nI (rn + 1))]))] H := hP
    have hD : va_D A [(x0, .inr (5, [.ref qc, .ref qb, .ref qs, .ref qk, .ref r0, .int lu, .int lr])), (r0, .inr (3, [.ref qc, .ref qb, .ref qs, .ref qk, iv, .ref rs, .ref ra, .ref rb, .int f1, .int f2, .int f3, .int f4, .int f5, .int f6, .int f7, .int f8, .int f9])), (ra1, .inl (kI, 8, .inl (upd rf rn v))), (ra, .inr (2, [.ref ra1, .int (nI (rn + 1))]))] := hD
    exact hret (nI (rn + 1)) (()) _ _ _ (rfl) (hP.sub [0, 1, 3, 2] rfl) (hD.sub [0, 1, 3, 2] (by decide) rfl) hS dLed_argument_36
  · have c10 : ¬ (rn < 8) := fun z9 => c10 (x_i01.mpr z9)
    exfalso; omega

set_option maxHeartbeats 4000000 in
set_option maxRecDepth 100000 in
theorem kLed_argumentFull (l : Launch) (dC : Nat → ClassId) (dI : Nat → Nat → Nat) (kI kJ kZ : ClassId) (x0 : Nat) (qc : Nat) (qb : Nat) (qs : Nat) (qk : Nat) (r0 : Nat) (lu : Int32) (lr : Int32) (iv : Value) (rs : Nat) (ra : Nat) (rb : Nat) (f1 : Int32) (f2 : Int32) (f3 : Int32) (f4 : Int32) (f5 : Int32) (f6 : Int32) (f7 : Int32) (f8 : Int32) (f9 : Int32) (ra1 : Nat) (rf : Nat → Int32) (rn : Nat) (v : Int32) (hrn : rn = 8) :
    XM stX l yLed_argument wLed_argument { frames := 1, cells := 0, slots := 0, locals := 20 } (dC, dI) xCl (x_T kI kJ kZ) [(x0, .inr (5, [.ref qc, .ref qb, .ref qs, .ref qk, .ref r0, .int lu, .int lr])), (r0, .inr (3, [.ref qc, .ref qb, .ref qs, .ref qk, iv, .ref rs, .ref ra, .ref rb, .int f1, .int f2, .int f3, .int f4, .int f5, .int f6, .int f7, .int f8, .int f9])), (ra, .inr (2, [.ref ra1, .int (nI rn)])), (ra1, .inl (kI, 8, .inl rf))] [.ref x0, .int v] 0 0 x_eI (fun (r : Int32) (u : Unit) => r = -1) (fun (u : Unit) => [(x0, .inr (5, [.ref qc, .ref qb, .ref qs, .ref qk, .ref r0, .int lu, .int lr])), (r0, .inr (3, [.ref qc, .ref qb, .ref qs, .ref qk, iv, .ref rs, .ref ra, .ref rb, .int f1, .int f2, .int f3, .int f4, .int f5, .int f6, .int f7, .int f8, .int f9])), (ra, .inr (2, [.ref ra1, .int (nI rn)])), (ra1, .inl (kI, 8, .inl rf))]) := by
  refine XM.ofI (cc := cLed_argument) (maxL := 2) (by decide) rfl (Nat.le_of_ble_eq_true rfl) ?_
  intro p e s m below meth c A Q hx hb hr hml hown hts hlocks hin hA hK hP hD hX hS ls hl hret
  have hl : lv_has ls 2 [(0, .ref x0), (1, .int v)] := hl
  refine lv_aload_n hx hb dLed_argument_0 rfl (lv_at hl 0 rfl) ?_
  refine va_get (D := (dC, dI)) (ci := 5) (v := .ref r0) (C := RLed) (T := TLed) (N := 7) hx hb hts (fun w h => List.mem_cons_of_mem _ (layLed w h)) hown hK hP 0 rfl rfl 4 (by decide) (hts (.fieldLink RLed 44 "CallLedger" "outermost" "LCallLedger$Run;") (List.mem_cons_of_mem _ gw200)) (fun _ h9 => h9) rfl dLed_argument_1 ?_
  refine va_getN (D := (dC, dI)) (ci := 3) (v := .ref ra) (C := RRun) (T := TRun) (N := 17) hx hb hts (fun w h => List.mem_cons_of_mem _ (layRun w h)) hown hK hP 1 rfl rfl 6 (by decide) (hX.nest (w := .fieldLinkNest RLed 72 "CallLedger$Run" "arguments" "LCallLedger$Row;" "CallLedger") (by decide +kernel)) (fun _ h9 => h9) rfl dLed_argument_4 ?_
  refine XM.callVi (As := []) (rest := []) (wr := [(x0, .inr (5, [.ref qc, .ref qb, .ref qs, .ref qk, .ref r0, .int lu, .int lr])), (r0, .inr (3, [.ref qc, .ref qb, .ref qs, .ref qk, iv, .ref rs, .ref ra, .ref rb, .int f1, .int f2, .int f3, .int f4, .int f5, .int f6, .int f7, .int f8, .int f9]))]) stX_ok ⟨hx, hb, hml, hown, hts⟩ (kRow_isFull l dC dI kI kJ kZ ra ra1 8 rn rf (by first | assumption | omega) (by first | assumption | omega)) (cwV 0 hts (x_gV gw222 gw223 gw224 gw40 gw225) rfl rfl rfl (by decide +kernel) ⟨Nat.le_of_ble_eq_true rfl, Nat.le_of_ble_eq_true rfl⟩) hK hP hD hS hA hX [2, 3] [0, 1] rfl rfl (by decide) (by decide) (by decide) rfl rfl rfl rfl hl.1 (Nat.le_of_ble_eq_true rfl) dLed_argument_7 ⟨Nat.le_of_ble_eq_true rfl, Nat.le_of_ble_eq_true rfl⟩ (fun r_2 u_1 H locs hw hP hD hS => ?_)
  obtain rfl := hw
  have hP : va_P (dC, dI) xCl [(x0, .inr (5, [.ref qc, .ref qb, .ref qs, .ref qk, .ref r0, .int lu, .int lr])), (r0, .inr (3, [.ref qc, .ref qb, .ref qs, .ref qk, iv, .ref rs, .ref ra, .ref rb, .int f1, .int f2, .int f3, .int f4, .int f5, .int f6, .int f7, .int f8, .int f9])), (ra, .inr (2, [.ref ra1, .int (nI rn)])), (ra1, .inl (kI, 8, .inl rf))] H := hP
  have hD : va_D A [(x0, .inr (5, [.ref qc, .ref qb, .ref qs, .ref qk, .ref r0, .int lu, .int lr])), (r0, .inr (3, [.ref qc, .ref qb, .ref qs, .ref qk, iv, .ref rs, .ref ra, .ref rb, .int f1, .int f2, .int f3, .int f4, .int f5, .int f6, .int f7, .int f8, .int f9])), (ra, .inr (2, [.ref ra1, .int (nI rn)])), (ra1, .inl (kI, 8, .inl rf))] := hD
  refine lv_if_eq (tgt := 15) hx hb dLed_argument_10 (by decide) (fun c10 => ?_) (fun c10 => ?_)
  · have c10 : (rn < 8) := x_i01.mp c10
    exfalso; omega
  · have c10 : ¬ (rn < 8) := fun z9 => c10 (x_i01.mpr z9)
    refine lv_iconst (v := (-1)) hx hb dLed_argument_13 (by decide) ?_
    exact hret (-1) (()) _ _ _ (rfl) (hP.sub [0, 1, 2, 3] rfl) (hD.sub [0, 1, 2, 3] (by decide) rfl) hS dLed_argument_14

