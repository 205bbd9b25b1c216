theorem dRow_size_0 : decode cRow_size 0 = .ok (.aload_n 0, 1) := by decide +kernel
theorem dRow_size_1 : decode cRow_size 1 = .ok (.getfield 19, 3) := by decide +kernel
theorem dRow_size_4 : decode cRow_size 4 = .ok (.ireturn, 1) := by decide +kernel
theorem dRow_isFull_0 : decode cRow_isFull 0 = .ok (.aload_n 0, 1) := by decide +kernel
theorem dRow_isFull_1 : decode cRow_isFull 1 = .ok (.getfield 19, 3) := by decide +kernel
theorem dRow_isFull_4 : decode cRow_isFull 4 = .ok (.aload_n 0, 1) := by decide +kernel
theorem dRow_isFull_5 : decode cRow_isFull 5 = .ok (.getfield 13, 3) := by decide +kernel
theorem dRow_isFull_8 : decode cRow_isFull 8 = .ok (.arraylength, 1) := by decide +kernel
theorem dRow_isFull_9 : decode cRow_isFull 9 = .ok (.if_icmp .lt 7, 3) := by decide +kernel
theorem dRow_isFull_12 : decode cRow_isFull 12 = .ok (.iconst 1, 1) := by decide +kernel
theorem dRow_isFull_13 : decode cRow_isFull 13 = .ok (.goto 4, 3) := by decide +kernel
theorem dRow_isFull_16 : decode cRow_isFull 16 = .ok (.iconst 0, 1) := by decide +kernel
theorem dRow_isFull_17 : decode cRow_isFull 17 = .ok (.ireturn, 1) := by decide +kernel
theorem dRow_add_0 : decode cRow_add 0 = .ok (.aload_n 0, 1) := by decide +kernel
theorem dRow_add_1 : decode cRow_add 1 = .ok (.getfield 19, 3) := by decide +kernel
theorem dRow_add_4 : decode cRow_add 4 = .ok (.aload_n 0, 1) := by decide +kernel
theorem dRow_add_5 : decode cRow_add 5 = .ok (.getfield 13, 3) := by decide +kernel
theorem dRow_add_8 : decode cRow_add 8 = .ok (.arraylength, 1) := by decide +kernel
theorem dRow_add_9 : decode cRow_add 9 = .ok (.if_icmp .ge 23, 3) := by decide +kernel
theorem dRow_add_12 : decode cRow_add 12 = .ok (.aload_n 0, 1) := by decide +kernel
theorem dRow_add_13 : decode cRow_add 13 = .ok (.getfield 13, 3) := by decide +kernel
theorem dRow_add_16 : decode cRow_add 16 = .ok (.aload_n 0, 1) := by decide +kernel
theorem dRow_add_17 : decode cRow_add 17 = .ok (.getfield 19, 3) := by decide +kernel
theorem dRow_add_20 : decode cRow_add 20 = .ok (.iload_n 1, 1) := by decide +kernel
theorem dRow_add_21 : decode cRow_add 21 = .ok (.iastore, 1) := by decide +kernel
theorem dRow_add_22 : decode cRow_add 22 = .ok (.aload_n 0, 1) := by decide +kernel
theorem dRow_add_23 : decode cRow_add 23 = .ok (.dup, 1) := by decide +kernel
theorem dRow_add_24 : decode cRow_add 24 = .ok (.getfield 19, 3) := by decide +kernel
theorem dRow_add_27 : decode cRow_add 27 = .ok (.iconst 1, 1) := by decide +kernel
theorem dRow_add_28 : decode cRow_add 28 = .ok (.iadd, 1) := by decide +kernel
theorem dRow_add_29 : decode cRow_add 29 = .ok (.putfield 19, 3) := by decide +kernel
theorem dRow_add_32 : decode cRow_add 32 = .ok (.return_, 1) := by decide +kernel
theorem dRow_at_0 : decode cRow_at 0 = .ok (.iload_n 1, 1) := by decide +kernel
theorem dRow_at_1 : decode cRow_at 1 = .ok (.ifCond .lt 20, 3) := by decide +kernel
theorem dRow_at_4 : decode cRow_at 4 = .ok (.iload_n 1, 1) := by decide +kernel
theorem dRow_at_5 : decode cRow_at 5 = .ok (.aload_n 0, 1) := by decide +kernel
theorem dRow_at_6 : decode cRow_at 6 = .ok (.getfield 19, 3) := by decide +kernel
theorem dRow_at_9 : decode cRow_at 9 = .ok (.if_icmp .ge 12, 3) := by decide +kernel
theorem dRow_at_12 : decode cRow_at 12 = .ok (.aload_n 0, 1) := by decide +kernel
theorem dRow_at_13 : decode cRow_at 13 = .ok (.getfield 13, 3) := by decide +kernel
theorem dRow_at_16 : decode cRow_at 16 = .ok (.iload_n 1, 1) := by decide +kernel
theorem dRow_at_17 : decode cRow_at 17 = .ok (.iaload, 1) := by decide +kernel
theorem dRow_at_18 : decode cRow_at 18 = .ok (.goto 4, 3) := by decide +kernel
theorem dRow_at_21 : decode cRow_at 21 = .ok (.iconst 0, 1) := by decide +kernel
theorem dRow_at_22 : decode cRow_at 22 = .ok (.ireturn, 1) := by decide +kernel
theorem dRow_below_0 : decode cRow_below 0 = .ok (.aload_n 0, 1) := by decide +kernel
theorem dRow_below_1 : decode cRow_below 1 = .ok (.aload_n 0, 1) := by decide +kernel
theorem dRow_below_2 : decode cRow_below 2 = .ok (.getfield 19, 3) := by decide +kernel
theorem dRow_below_5 : decode cRow_below 5 = .ok (.iconst 1, 1) := by decide +kernel
theorem dRow_below_6 : decode cRow_below 6 = .ok (.isub, 1) := by decide +kernel
theorem dRow_below_7 : decode cRow_below 7 = .ok (.iload_n 1, 1) := by decide +kernel
theorem dRow_below_8 : decode cRow_below 8 = .ok (.isub, 1) := by decide +kernel
theorem dRow_below_9 : decode cRow_below 9 = .ok (.invokevirtual 23, 3) := by decide +kernel
theorem dRow_below_12 : decode cRow_below 12 = .ok (.ireturn, 1) := by decide +kernel
theorem dRow_take_0 : decode cRow_take 0 = .ok (.aload_n 0, 1) := by decide +kernel
theorem dRow_take_1 : decode cRow_take 1 = .ok (.getfield 19, 3) := by decide +kernel
theorem dRow_take_4 : decode cRow_take 4 = .ok (.ifCond .gt 5, 3) := by decide +kernel
theorem dRow_take_7 : decode cRow_take 7 = .ok (.iconst 0, 1) := by decide +kernel
theorem dRow_take_8 : decode cRow_take 8 = .ok (.ireturn, 1) := by decide +kernel
theorem dRow_take_9 : decode cRow_take 9 = .ok (.aload_n 0, 1) := by decide +kernel
theorem dRow_take_10 : decode cRow_take 10 = .ok (.dup, 1) := by decide +kernel
theorem dRow_take_11 : decode cRow_take 11 = .ok (.getfield 19, 3) := by decide +kernel
theorem dRow_take_14 : decode cRow_take 14 = .ok (.iconst 1, 1) := by decide +kernel
theorem dRow_take_15 : decode cRow_take 15 = .ok (.isub, 1) := by decide +kernel
theorem dRow_take_16 : decode cRow_take 16 = .ok (.putfield 19, 3) := by decide +kernel
theorem dRow_take_19 : decode cRow_take 19 = .ok (.aload_n 0, 1) := by decide +kernel
theorem dRow_take_20 : decode cRow_take 20 = .ok (.getfield 13, 3) := by decide +kernel
theorem dRow_take_23 : decode cRow_take 23 = .ok (.aload_n 0, 1) := by decide +kernel
theorem dRow_take_24 : decode cRow_take 24 = .ok (.getfield 19, 3) := by decide +kernel
theorem dRow_take_27 : decode cRow_take 27 = .ok (.iaload, 1) := by decide +kernel
theorem dRow_take_28 : decode cRow_take 28 = .ok (.ireturn, 1) := by decide +kernel
theorem dRow_swap_0 : decode cRow_swap 0 = .ok (.aload_n 0, 1) := by decide +kernel
theorem dRow_swap_1 : decode cRow_swap 1 = .ok (.getfield 19, 3) := by decide +kernel
theorem dRow_swap_4 : decode cRow_swap 4 = .ok (.iconst 1, 1) := by decide +kernel
theorem dRow_swap_5 : decode cRow_swap 5 = .ok (.isub, 1) := by decide +kernel
theorem dRow_swap_6 : decode cRow_swap 6 = .ok (.istore_n 2, 1) := by decide +kernel
theorem dRow_swap_7 : decode cRow_swap 7 = .ok (.iload_n 2, 1) := by decide +kernel
theorem dRow_swap_8 : decode cRow_swap 8 = .ok (.iload_n 1, 1) := by decide +kernel
theorem dRow_swap_9 : decode cRow_swap 9 = .ok (.isub, 1) := by decide +kernel
theorem dRow_swap_10 : decode cRow_swap 10 = .ok (.istore_n 3, 1) := by decide +kernel
theorem dRow_swap_11 : decode cRow_swap 11 = .ok (.iload_n 3, 1) := by decide +kernel
theorem dRow_swap_12 : decode cRow_swap 12 = .ok (.ifCond .lt 36, 3) := by decide +kernel
theorem dRow_swap_15 : decode cRow_swap 15 = .ok (.iload_n 3, 1) := by decide +kernel
theorem dRow_swap_16 : decode cRow_swap 16 = .ok (.iload_n 2, 1) := by decide +kernel
theorem dRow_swap_17 : decode cRow_swap 17 = .ok (.if_icmp .ge 31, 3) := by decide +kernel
theorem dRow_swap_20 : decode cRow_swap 20 = .ok (.aload_n 0, 1) := by decide +kernel
theorem dRow_swap_21 : decode cRow_swap 21 = .ok (.getfield 13, 3) := by decide +kernel
theorem dRow_swap_24 : decode cRow_swap 24 = .ok (.iload_n 2, 1) := by decide +kernel
theorem dRow_swap_25 : decode cRow_swap 25 = .ok (.iaload, 1) := by decide +kernel
theorem dRow_swap_26 : decode cRow_swap 26 = .ok (.istore 4, 2) := by decide +kernel
theorem dRow_swap_28 : decode cRow_swap 28 = .ok (.aload_n 0, 1) := by decide +kernel
theorem dRow_swap_29 : decode cRow_swap 29 = .ok (.getfield 13, 3) := by decide +kernel
theorem dRow_swap_32 : decode cRow_swap 32 = .ok (.iload_n 2, 1) := by decide +kernel
theorem dRow_swap_33 : decode cRow_swap 33 = .ok (.aload_n 0, 1) := by decide +kernel
theorem dRow_swap_34 : decode cRow_swap 34 = .ok (.getfield 13, 3) := by decide +kernel
theorem dRow_swap_37 : decode cRow_swap 37 = .ok (.iload_n 3, 1) := by decide +kernel
theorem dRow_swap_38 : decode cRow_swap 38 = .ok (.iaload, 1) := by decide +kernel
theorem dRow_swap_39 : decode cRow_swap 39 = .ok (.iastore, 1) := by decide +kernel
theorem dRow_swap_40 : decode cRow_swap 40 = .ok (.aload_n 0, 1) := by decide +kernel
theorem dRow_swap_41 : decode cRow_swap 41 = .ok (.getfield 13, 3) := by decide +kernel
theorem dRow_swap_44 : decode cRow_swap 44 = .ok (.iload_n 3, 1) := by decide +kernel
theorem dRow_swap_45 : decode cRow_swap 45 = .ok (.iload 4, 2) := by decide +kernel
theorem dRow_swap_47 : decode cRow_swap 47 = .ok (.iastore, 1) := by decide +kernel
theorem dRow_swap_48 : decode cRow_swap 48 = .ok (.return_, 1) := by decide +kernel
theorem dRow_cutTo_0 : decode cRow_cutTo 0 = .ok (.iload_n 1, 1) := by decide +kernel
theorem dRow_cutTo_1 : decode cRow_cutTo 1 = .ok (.ifCond .lt 16, 3) := by decide +kernel
theorem dRow_cutTo_4 : decode cRow_cutTo 4 = .ok (.iload_n 1, 1) := by decide +kernel
theorem dRow_cutTo_5 : decode cRow_cutTo 5 = .ok (.aload_n 0, 1) := by decide +kernel
theorem dRow_cutTo_6 : decode cRow_cutTo 6 = .ok (.getfield 19, 3) := by decide +kernel
theorem dRow_cutTo_9 : decode cRow_cutTo 9 = .ok (.if_icmp .ge 8, 3) := by decide +kernel
theorem dRow_cutTo_12 : decode cRow_cutTo 12 = .ok (.aload_n 0, 1) := by decide +kernel
theorem dRow_cutTo_13 : decode cRow_cutTo 13 = .ok (.iload_n 1, 1) := by decide +kernel
theorem dRow_cutTo_14 : decode cRow_cutTo 14 = .ok (.putfield 19, 3) := by decide +kernel
theorem dRow_cutTo_17 : decode cRow_cutTo 17 = .ok (.return_, 1) := by decide +kernel
theorem gw40 : .initialized RRow ∈ xG := List.mem_filter.mpr ⟨List.mem_of_getElem? (i := 40) (by decide +kernel), by decide +kernel⟩
theorem gw125 : .fieldLink RRow 13 "CallLedger$Row" "numbers" "[I" ∈ xG := List.mem_filter.mpr ⟨List.mem_of_getElem? (i := 125) (by decide +kernel), by decide +kernel⟩
theorem gw126 : .fieldLink RRow 19 "CallLedger$Row" "count" "I" ∈ xG := List.mem_filter.mpr ⟨List.mem_of_getElem? (i := 126) (by decide +kernel), by decide +kernel⟩
theorem gw512 : .methodLink RRow 23 yRow_at ∈ xG := List.mem_filter.mpr ⟨List.mem_of_getElem? (i := 512) (by decide +kernel), by decide +kernel⟩
theorem gw513 : .instanceMethod yRow_at ∈ xG := List.mem_filter.mpr ⟨List.mem_of_getElem? (i := 513) (by decide +kernel), by decide +kernel⟩
theorem gw514 : .selects RRow yRow_at yRow_at ∈ xG := List.mem_filter.mpr ⟨List.mem_of_getElem? (i := 514) (by decide +kernel), by decide +kernel⟩
theorem gw515 : .code yRow_at cRow_at 2 (some .int) ∈ xG := List.mem_filter.mpr ⟨List.mem_of_getElem? (i := 515) (by decide +kernel), by decide +kernel⟩
set_option maxHeartbeats 4000000 in
set_option maxRecDepth 100000 in
theorem kRow_size (l : Launch) (dC : Nat → ClassId) (dI : Nat → Nat → Nat) (kI kJ kZ : ClassId) (h0 : Nat) (h1 : Nat) (n : Nat)  :
    XM stX l yRow_size wRow_size { frames := 0, cells := 0, slots := 0, locals := 0 } (dC, dI) xCl (x_T kI kJ kZ) [(h0, .inr (2, [.ref h1, .int (nI n)]))] [.ref h0] 0 0 x_eI (fun (r : Int32) (u : Unit) => r = nI n) (fun (u : Unit) => [(h0, .inr (2, [.ref h1, .int (nI n)]))]) := by
  refine XM.ofI (cc := cRow_size) (maxL := 1) (by decide) rfl (Nat.le_of_ble_eq_true rfl) ?_
  intro p e s m below meth c A Q hx hb hr hml hown hts hlocks hin hA hK hP hD hX hS ls hl hret
  have hl : lv_has ls 1 [(0, .ref h0)] := hl
  refine lv_aload_n hx hb dRow_size_0 rfl (lv_at hl 0 rfl) ?_
  refine va_get (D := (dC, dI)) (ci := 2) (v := .int (nI n)) (C := RRow) (T := TRow) (N := 2) hx hb hts (fun w h => List.mem_cons_of_mem _ (layRow w h)) hown hK hP 0 rfl rfl 1 (by decide) (hts (.fieldLink RRow 19 "CallLedger$Row" "count" "I") (List.mem_cons_of_mem _ gw126)) (fun _ h9 => h9) rfl dRow_size_1 ?_
  exact hret (nI n) (()) _ _ _ (rfl) (hP.sub [0] rfl) (hD.sub [0] (by decide) rfl) hS dRow_size_4

set_option maxHeartbeats 4000000 in
set_option maxRecDepth 100000 in
theorem kRow_isFull (l : Launch) (dC : Nat → ClassId) (dI : Nat → Nat → Nat) (kI kJ kZ : ClassId) (h0 : Nat) (h1 : Nat) (cap : Nat) (n : Nat) (f : Nat → Int32) (hn : n ≤ cap) (hc : cap < 2 ^ 30) :
    XM stX l yRow_isFull wRow_isFull { frames := 0, cells := 0, slots := 0, locals := 0 } (dC, dI) xCl (x_T kI kJ kZ) [(h0, .inr (2, [.ref h1, .int (nI n)])), (h1, .inl (kI, cap, .inl f))] [.ref h0] 0 0 x_eI (fun (r : Int32) (u : Unit) => r = if n < cap then 0 else 1) (fun (u : Unit) => [(h0, .inr (2, [.ref h1, .int (nI n)])), (h1, .inl (kI, cap, .inl f))]) := by
  refine XM.ofZ (cc := cRow_isFull) (maxL := 1) (by decide) rfl (Nat.le_of_ble_eq_true rfl) ?_
  intro p e s m below meth c A Q hx hb hr hml hown hts hlocks hin hA hK hP hD hX hS ls hl hret
  have hl : lv_has ls 1 [(0, .ref h0)] := hl
  refine lv_aload_n hx hb dRow_isFull_0 rfl (lv_at hl 0 rfl) ?_
  refine va_get (D := (dC, dI)) (ci := 2) (v := .int (nI n)) (C := RRow) (T := TRow) (N := 2) hx hb hts (fun w h => List.mem_cons_of_mem _ (layRow w h)) hown hK hP 0 rfl rfl 1 (by decide) (hts (.fieldLink RRow 19 "CallLedger$Row" "count" "I") (List.mem_cons_of_mem _ gw126)) (fun _ h9 => h9) rfl dRow_isFull_1 ?_
  refine lv_aload_n hx hb dRow_isFull_4 rfl (lv_at hl 0 rfl) ?_
  refine va_get (D := (dC, dI)) (ci := 2) (v := .ref h1) (C := RRow) (T := TRow) (N := 2) hx hb hts (fun w h => List.mem_cons_of_mem _ (layRow w h)) hown hK hP 0 rfl rfl 0 (by decide) (hts (.fieldLink RRow 13 "CallLedger$Row" "numbers" "[I") (List.mem_cons_of_mem _ gw125)) (fun _ h9 => h9) rfl dRow_isFull_5 ?_
  refine va_alen (v := nI cap) hx hb hK hP 1 0 rfl rfl rfl dRow_isFull_8 ?_
  refine lv_icmp_lt (tgt := 16) hx hb dRow_isFull_9 (by decide) (fun c9 => ?_) (fun c9 => ?_)
  · have c9 : n < cap := (nI_ltI (a := n) (b := cap) (by omega) (by omega)).mp c9
    refine lv_iconst (v := 0) hx hb dRow_isFull_16 (by decide) ?_
    exact hret 0 (())  (rfl) _ _ _ (by first | rfl | (split <;> first | rfl | omega) | (simp_all; done)) (hP.sub [0, 1] rfl) (hD.sub [0, 1] (by decide) rfl) hS dRow_isFull_17
  · have c9 : ¬ (n < cap) := fun z9 => c9 ((nI_ltI (a := n) (b := cap) (by omega) (by omega)).mpr z9)
    refine lv_iconst (v := 1) hx hb dRow_isFull_12 (by decide) ?_
    refine lv_goto (tgt := 17) hx hb dRow_isFull_13 (by decide) ?_
    exact hret 1 (())  (rfl) _ _ _ (by first | rfl | (split <;> first | rfl | omega) | (simp_all; done)) (hP.sub [0, 1] rfl) (hD.sub [0, 1] (by decide) rfl) hS dRow_isFull_17

set_option maxHeartbeats 4000000 in
set_option maxRecDepth 100000 in
theorem kRow_add (l : Launch) (dC : Nat → ClassId) (dI : Nat → Nat → Nat) (kI kJ kZ : ClassId) (h0 : Nat) (h1 : Nat) (cap : Nat) (n : Nat) (f : Nat → Int32) (x : Int32) (hn : n ≤ cap) (hc : cap < 2 ^ 30) (hlt : n < cap) :
    XM stX l yRow_add wRow_add { frames := 0, cells := 0, slots := 0, locals := 0 } (dC, dI) xCl (x_T kI kJ kZ) [(h0, .inr (2, [.ref h1, .int (nI n)])), (h1, .inl (kI, cap, .inl f))] [.ref h0, .int x] 0 0 x_eV (fun (r : Unit) (u : Unit) => True) (fun (u : Unit) => [(h0, .inr (2, [.ref h1, .int (nI (n + 1))])), (h1, .inl (kI, cap, .inl (upd f n x)))]) := by
  refine XM.ofV (cc := cRow_add) (maxL := 2) (by decide) rfl (Nat.le_of_ble_eq_true rfl) ?_
  intro p e s m below meth c A Q hx hb hr hml hown hts hlocks hin hA hK hP hD hX hS ls hl hret
  have hl : lv_has ls 2 [(0, .ref h0), (1, .int x)] := hl
  refine lv_aload_n hx hb dRow_add_0 rfl (lv_at hl 0 rfl) ?_
  refine va_get (D := (dC, dI)) (ci := 2) (v := .int (nI n)) (C := RRow) (T := TRow) (N := 2) hx hb hts (fun w h => List.mem_cons_of_mem _ (layRow w h)) hown hK hP 0 rfl rfl 1 (by decide) (hts (.fieldLink RRow 19 "CallLedger$Row" "count" "I") (List.mem_cons_of_mem _ gw126)) (fun _ h9 => h9) rfl dRow_add_1 ?_
  refine lv_aload_n hx hb dRow_add_4 rfl (lv_at hl 0 rfl) ?_
  refine va_get (D := (dC, dI)) (ci := 2) (v := .ref h1) (C := RRow) (T := TRow) (N := 2) hx hb hts (fun w h => List.mem_cons_of_mem _ (layRow w h)) hown hK hP 0 rfl rfl 0 (by decide) (hts (.fieldLink RRow 13 "CallLedger$Row" "numbers" "[I") (List.mem_cons_of_mem _ gw125)) (fun _ h9 => h9) rfl dRow_add_5 ?_
  refine va_alen (v := nI cap) hx hb hK hP 1 0 rfl rfl rfl dRow_add_8 ?_
  refine lv_icmp_ge (tgt := 32) hx hb dRow_add_9 (by decide) (fun c9 => ?_) (fun c9 => ?_)
  · have c9 : cap ≤ n := (nI_leI (a := cap) (b := n) (by omega) (by omega)).mp c9
    exfalso; omega
  · have c9 : ¬ (cap ≤ n) := fun z9 => c9 ((nI_leI (a := cap) (b := n) (by omega) (by omega)).mpr z9)
    refine lv_aload_n hx hb dRow_add_12 rfl (lv_at hl 0 rfl) ?_
    refine va_get (D := (dC, dI)) (ci := 2) (v := .ref h1) (C := RRow) (T := TRow) (N := 2) hx hb hts (fun w h => List.mem_cons_of_mem _ (layRow w h)) hown hK hP 0 rfl rfl 0 (by decide) (hts (.fieldLink RRow 13 "CallLedger$Row" "numbers" "[I") (List.mem_cons_of_mem _ gw125)) (fun _ h9 => h9) rfl dRow_add_13 ?_
    refine lv_aload_n hx hb dRow_add_16 rfl (lv_at hl 0 rfl) ?_
    refine va_get (D := (dC, dI)) (ci := 2) (v := .int (nI n)) (C := RRow) (T := TRow) (N := 2) hx hb hts (fun w h => List.mem_cons_of_mem _ (layRow w h)) hown hK hP 0 rfl rfl 1 (by decide) (hts (.fieldLink RRow 19 "CallLedger$Row" "count" "I") (List.mem_cons_of_mem _ gw126)) (fun _ h9 => h9) rfl dRow_add_17 ?_
    refine lv_iload_n hx hb dRow_add_20 rfl (lv_at hl 1 rfl) ?_
    refine x_iast (j := n) hx hb hK hP hD hS 1 0 rfl rfl rfl (by omega) (by omega) dRow_add_21 (fun H locs hP hD hS => ?_)
    have hP : va_P (dC, dI) xCl [(h0, .inr (2, [.ref h1, .int (nI n)])), (h1, .inl (kI, cap, .inl (upd f n x)))] H := hP
    have hD : va_D A [(h0, .inr (2, [.ref h1, .int (nI n)])), (h1, .inl (kI, cap, .inl (upd f n x)))] := hD
    refine lv_aload_n hx hb dRow_add_22 rfl (lv_at hl 0 rfl) ?_
    refine lv_dup hx hb dRow_add_23 rfl ?_
    refine va_get (D := (dC, dI)) (ci := 2) (v := .int (nI n)) (C := RRow) (T := TRow) (N := 2) hx hb hts (fun w h => List.mem_cons_of_mem _ (layRow w h)) hown hK hP 0 rfl rfl 1 (by decide) (hts (.fieldLink RRow 19 "CallLedger$Row" "count" "I") (List.mem_cons_of_mem _ gw126)) (fun _ h9 => h9) rfl dRow_add_24 ?_
    refine lv_iconst (v := 1) hx hb dRow_add_27 (by decide) ?_
    refine lv_iadd hx hb dRow_add_28 ?_
    refine x_topi (y := nI (n + 1)) (nI_1 _) ?_
    refine va_put (D := (dC, dI)) (ci := 2) (v := .int (nI (n + 1))) (ty := .int) (C := RRow) (T := TRow) (N := 2) hx hb hts (fun w h => List.mem_cons_of_mem _ (layRow w h)) tyRow tykRow nmRow hown hK hP hD hS 0 rfl rfl 1 (by decide) (hts (.fieldLink RRow 19 "CallLedger$Row" "count" "I") (List.mem_cons_of_mem _ gw126)) (fun _ h9 => h9) rfl (by decide +kernel) rfl rfl (Nat.le_of_ble_eq_true rfl) dRow_add_29 (fun H locs hP hD hS => ?_)
    have hP : va_P (dC, dI) xCl [(h0, .inr (2, [.ref h1, .int (nI (n + 1))])), (h1, .inl (kI, cap, .inl (upd f n x)))] H := hP
    have hD : va_D A [(h0, .inr (2, [.ref h1, .int (nI (n + 1))])), (h1, .inl (kI, cap, .inl (upd f n x)))] := hD
    exact hret  (()) _ _ _ (trivial) (hP.sub [0, 1] rfl) (hD.sub [0, 1] (by decide) rfl) hS dRow_add_32

set_option maxHeartbeats 4000000 in
set_option maxRecDepth 100000 in
theorem kRow_addFull (l : Launch) (dC : Nat → ClassId) (dI : Nat → Nat → Nat) (kI kJ kZ : ClassId) (h0 : Nat) (h1 : Nat) (cap : Nat) (n : Nat) (f : Nat → Int32) (x : Int32) (hn : n ≤ cap) (hc : cap < 2 ^ 30) (hge : cap ≤ n) :
    XM stX l yRow_add wRow_add { frames := 0, cells := 0, slots := 0, locals := 0 } (dC, dI) xCl (x_T kI kJ kZ) [(h0, .inr (2, [.ref h1, .int (nI n)])), (h1, .inl (kI, cap, .inl f))] [.ref h0, .int x] 0 0 x_eV (fun (r : Unit) (u : Unit) => True) (fun (u : Unit) => [(h0, .inr (2, [.ref h1, .int (nI n)])), (h1, .inl (kI, cap, .inl f))]) := by
  refine XM.ofV (cc := cRow_add) (maxL := 2) (by decide) rfl (Nat.le_of_ble_eq_true rfl) ?_
  intro p e s m below meth c A Q hx hb hr hml hown hts hlocks hin hA hK hP hD hX hS ls hl hret
  have hl : lv_has ls 2 [(0, .ref h0), (1, .int x)] := hl
  refine lv_aload_n hx hb dRow_add_0 rfl (lv_at hl 0 rfl) ?_
  refine va_get (D := (dC, dI)) (ci := 2) (v := .int (nI n)) (C := RRow) (T := TRow) (N := 2) hx hb hts (fun w h => List.mem_cons_of_mem _ (layRow w h)) hown hK hP 0 rfl rfl 1 (by decide) (hts (.fieldLink RRow 19 "CallLedger$Row" "count" "I") (List.mem_cons_of_mem _ gw126)) (fun _ h9 => h9) rfl dRow_add_1 ?_
  refine lv_aload_n hx hb dRow_add_4 rfl (lv_at hl 0 rfl) ?_
  refine va_get (D := (dC, dI)) (ci := 2) (v := .ref h1) (C := RRow) (T := TRow) (N := 2) hx hb hts (fun w h => List.mem_cons_of_mem _ (layRow w h)) hown hK hP 0 rfl rfl 0 (by decide) (hts (.fieldLink RRow 13 "CallLedger$Row" "numbers" "[I") (List.mem_cons_of_mem _ gw125)) (fun _ h9 => h9) rfl dRow_add_5 ?_
  refine va_alen (v := nI cap) hx hb hK hP 1 0 rfl rfl rfl dRow_add_8 ?_
  refine lv_icmp_ge (tgt := 32) hx hb dRow_add_9 (by decide) (fun c9 => ?_) (fun c9 => ?_)
  · have c9 : cap ≤ n := (nI_leI (a := cap) (b := n) (by omega) (by omega)).mp c9
    exact hret  (()) _ _ _ (trivial) (hP.sub [0, 1] rfl) (hD.sub [0, 1] (by decide) rfl) hS dRow_add_32
  · have c9 : ¬ (cap ≤ n) := fun z9 => c9 ((nI_leI (a := cap) (b := n) (by omega) (by omega)).mpr z9)
    exfalso; omega

set_option maxHeartbeats 4000000 in
set_option maxRecDepth 100000 in
theorem kRow_at (l : Launch) (dC : Nat → ClassId) (dI : Nat → Nat → Nat) (kI kJ kZ : ClassId) (h0 : Nat) (h1 : Nat) (cap : Nat) (n : Nat) (f : Nat → Int32) (j : Nat) (hn : n ≤ cap) (hc : cap < 2 ^ 30) (hj : j < n) :
    XM stX l yRow_at wRow_at { frames := 0, cells := 0, slots := 0, locals := 0 } (dC, dI) xCl (x_T kI kJ kZ) [(h0, .inr (2, [.ref h1, .int (nI n)])), (h1, .inl (kI, cap, .inl f))] [.ref h0, .int (nI j)] 0 0 x_eI (fun (r : Int32) (u : Unit) => r = f j) (fun (u : Unit) => [(h0, .inr (2, [.ref h1, .int (nI n)])), (h1, .inl (kI, cap, .inl f))]) := by
  refine XM.ofI (cc := cRow_at) (maxL := 2) (by decide) rfl (Nat.le_of_ble_eq_true rfl) ?_
  intro p e s m below meth c A Q hx hb hr hml hown hts hlocks hin hA hK hP hD hX hS ls hl hret
  have hl : lv_has ls 2 [(0, .ref h0), (1, .int (nI j))] := hl
  refine lv_iload_n hx hb dRow_at_0 rfl (lv_at hl 1 rfl) ?_
  refine lv_if_lt (tgt := 21) hx hb dRow_at_1 (by decide) (fun c1 => ?_) (fun c1 => ?_)
  · have c1 : j < 0 := (nI_ltI (a := j) (b := 0) (by omega) (by omega)).mp c1
    exfalso; omega
  · have c1 : ¬ (j < 0) := fun z9 => c1 ((nI_ltI (a := j) (b := 0) (by omega) (by omega)).mpr z9)
    refine lv_iload_n hx hb dRow_at_4 rfl (lv_at hl 1 rfl) ?_
    refine lv_aload_n hx hb dRow_at_5 rfl (lv_at hl 0 rfl) ?_
    refine va_get (D := (dC, dI)) (ci := 2) (v := .int (nI n)) (C := RRow) (T := TRow) (N := 2) hx hb hts (fun w h => List.mem_cons_of_mem _ (layRow w h)) hown hK hP 0 rfl rfl 1 (by decide) (hts (.fieldLink RRow 19 "CallLedger$Row" "count" "I") (List.mem_cons_of_mem _ gw126)) (fun _ h9 => h9) rfl dRow_at_6 ?_
    refine lv_icmp_ge (tgt := 21) hx hb dRow_at_9 (by decide) (fun c9 => ?_) (fun c9 => ?_)
    · have c9 : n ≤ j := (nI_leI (a := n) (b := j) (by omega) (by omega)).mp c9
      exfalso; omega
    · have c9 : ¬ (n ≤ j) := fun z9 => c9 ((nI_leI (a := n) (b := j) (by omega) (by omega)).mpr z9)
      refine lv_aload_n hx hb dRow_at_12 rfl (lv_at hl 0 rfl) ?_
      refine va_get (D := (dC, dI)) (ci := 2) (v := .ref h1) (C := RRow) (T := TRow) (N := 2) hx hb hts (fun w h => List.mem_cons_of_mem _ (layRow w h)) hown hK hP 0 rfl rfl 0 (by decide) (hts (.fieldLink RRow 13 "CallLedger$Row" "numbers" "[I") (List.mem_cons_of_mem _ gw125)) (fun _ h9 => h9) rfl dRow_at_13 ?_
      refine lv_iload_n hx hb dRow_at_16 rfl (lv_at hl 1 rfl) ?_
      refine x_iald (j := j) hx hb hK hP 1 0 rfl rfl rfl (by omega) (by omega) dRow_at_17 ?_
      refine lv_goto (tgt := 22) hx hb dRow_at_18 (by decide) ?_
      exact hret (f j) (()) _ _ _ (rfl) (hP.sub [0, 1] rfl) (hD.sub [0, 1] (by decide) rfl) hS dRow_at_22

set_option maxHeartbeats 4000000 in
set_option maxRecDepth 100000 in
theorem kRow_atX (l : Launch) (dC : Nat → ClassId) (dI : Nat → Nat → Nat) (kI kJ kZ : ClassId) (h0 : Nat) (h1 : Nat) (cap : Nat) (n : Nat) (f : Nat → Int32) (x : Int32) (hn : n ≤ cap) (hc : cap < 2 ^ 30) :
    XM stX l yRow_at wRow_at { frames := 0, cells := 0, slots := 0, locals := 0 } (dC, dI) xCl (x_T kI kJ kZ) [(h0, .inr (2, [.ref h1, .int (nI n)])), (h1, .inl (kI, cap, .inl f))] [.ref h0, .int x] 0 0 x_eI (fun (r : Int32) (u : Unit) => r = if xHas n x = true then f x.toNatClampNeg else 0) (fun (u : Unit) => [(h0, .inr (2, [.ref h1, .int (nI n)])), (h1, .inl (kI, cap, .inl f))]) := by
  refine XM.ofI (cc := cRow_at) (maxL := 2) (by decide) rfl (Nat.le_of_ble_eq_true rfl) ?_
  intro p e s m below meth c A Q hx hb hr hml hown hts hlocks hin hA hK hP hD hX hS ls hl hret
  have hl : lv_has ls 2 [(0, .ref h0), (1, .int x)] := hl
  refine lv_iload_n hx hb dRow_at_0 rfl (lv_at hl 1 rfl) ?_
  refine lv_if_lt (tgt := 21) hx hb dRow_at_1 (by decide) (fun c1 => ?_) (fun c1 => ?_)
  · refine lv_iconst (v := 0) hx hb dRow_at_21 (by decide) ?_
    exact hret 0 (()) _ _ _ (by first | (rw [if_pos (xHas_t c1 c9)]; done) | (rw [xHas_f1 c1]; rfl) | (rw [xHas_f2 c9]; rfl)) (hP.sub [0, 1] rfl) (hD.sub [0, 1] (by decide) rfl) hS dRow_at_22
  · refine lv_iload_n hx hb dRow_at_4 rfl (lv_at hl 1 rfl) ?_
    refine lv_aload_n hx hb dRow_at_5 rfl (lv_at hl 0 rfl) ?_
    refine va_get (D := (dC, dI)) (ci := 2) (v := .int (nI n)) (C := RRow) (T := TRow) (N := 2) hx hb hts (fun w h => List.mem_cons_of_mem _ (layRow w h)) hown hK hP 0 rfl rfl 1 (by decide) (hts (.fieldLink RRow 19 "CallLedger$Row" "count" "I") (List.mem_cons_of_mem _ gw126)) (fun _ h9 => h9) rfl dRow_at_6 ?_
    refine lv_icmp_ge (tgt := 21) hx hb dRow_at_9 (by decide) (fun c9 => ?_) (fun c9 => ?_)
    · refine lv_iconst (v := 0) hx hb dRow_at_21 (by decide) ?_
      exact hret 0 (()) _ _ _ (by first | (rw [if_pos (xHas_t c1 c9)]; done) | (rw [xHas_f1 c1]; rfl) | (rw [xHas_f2 c9]; rfl)) (hP.sub [0, 1] rfl) (hD.sub [0, 1] (by decide) rfl) hS dRow_at_22
    · refine lv_aload_n hx hb dRow_at_12 rfl (lv_at hl 0 rfl) ?_
      refine va_get (D := (dC, dI)) (ci := 2) (v := .ref h1) (C := RRow) (T := TRow) (N := 2) hx hb hts (fun w h => List.mem_cons_of_mem _ (layRow w h)) hown hK hP 0 rfl rfl 0 (by decide) (hts (.fieldLink RRow 13 "CallLedger$Row" "numbers" "[I") (List.mem_cons_of_mem _ gw125)) (fun _ h9 => h9) rfl dRow_at_13 ?_
      refine lv_iload_n hx hb dRow_at_16 rfl (lv_at hl 1 rfl) ?_
      refine x_iald (j := x.toNatClampNeg) hx hb hK hP 1 0 rfl rfl (x_nn c1) (Nat.lt_of_lt_of_le (x_ltn c1 c9 (by omega)) hn) (by omega) dRow_at_17 ?_
      refine lv_goto (tgt := 22) hx hb dRow_at_18 (by decide) ?_
      exact hret (f x.toNatClampNeg) (()) _ _ _ (by first | (rw [if_pos (xHas_t c1 c9)]; done) | (rw [xHas_f1 c1]; rfl) | (rw [xHas_f2 c9]; rfl)) (hP.sub [0, 1] rfl) (hD.sub [0, 1] (by decide) rfl) hS dRow_at_22

set_option maxHeartbeats 4000000 in
set_option maxRecDepth 100000 in
theorem kRow_below (l : Launch) (dC : Nat → ClassId) (dI : Nat → Nat → Nat) (kI kJ kZ : ClassId) (h0 : Nat) (h1 : Nat) (cap : Nat) (n : Nat) (f : Nat → Int32) (j : Nat) (hn : n ≤ cap) (hc : cap < 2 ^ 30) (hj : j < n) :
    XM stX l yRow_below wRow_below { frames := 1, cells := 0, slots := 0, locals := 21 } (dC, dI) xCl (x_T kI kJ kZ) [(h0, .inr (2, [.ref h1, .int (nI n)])), (h1, .inl (kI, cap, .inl f))] [.ref h0, .int (nI j)] 0 0 x_eI (fun (r : Int32) (u : Unit) => r = f (n - 1 - j)) (fun (u : Unit) => [(h0, .inr (2, [.ref h1, .int (nI n)])), (h1, .inl (kI, cap, .inl f))]) := by
  refine XM.ofI (cc := cRow_below) (maxL := 2) (by decide) rfl (Nat.le_of_ble_eq_true rfl) ?_
  intro p e s m below meth c A Q hx hb hr hml hown hts hlocks hin hA hK hP hD hX hS ls hl hret
  have hl : lv_has ls 2 [(0, .ref h0), (1, .int (nI j))] := hl
  refine lv_aload_n hx hb dRow_below_0 rfl (lv_at hl 0 rfl) ?_
  refine lv_aload_n hx hb dRow_below_1 rfl (lv_at hl 0 rfl) ?_
  refine va_get (D := (dC, dI)) (ci := 2) (v := .int (nI n)) (C := RRow) (T := TRow) (N := 2) hx hb hts (fun w h => List.mem_cons_of_mem _ (layRow w h)) hown hK hP 0 rfl rfl 1 (by decide) (hts (.fieldLink RRow 19 "CallLedger$Row" "count" "I") (List.mem_cons_of_mem _ gw126)) (fun _ h9 => h9) rfl dRow_below_2 ?_
  refine lv_iconst (v := 1) hx hb dRow_below_5 (by decide) ?_
  refine lv_isub hx hb dRow_below_6 ?_
  refine x_topi (y := nI (n - 1)) (x_pred (by omega)) ?_
  refine lv_iload_n hx hb dRow_below_7 rfl (lv_at hl 1 rfl) ?_
  refine lv_isub hx hb dRow_below_8 ?_
  refine x_topi (y := nI (n - 1 - j)) (pk_sub (by omega)) ?_
  refine XM.callVi (As := [.int (nI (n - 1 - j))]) (rest := []) (wr := []) stX_ok ⟨hx, hb, hml, hown, hts⟩ (kRow_at l dC dI kI kJ kZ h0 h1 cap n f (n - 1 - j) (by first | assumption | omega) (by first | assumption | omega) (by first | assumption | omega)) (cwV 1 hts (x_gV gw512 gw513 gw514 gw40 gw515) rfl rfl rfl (by decide +kernel) ⟨Nat.le_of_ble_eq_true rfl, Nat.le_of_ble_eq_true rfl⟩) hK hP hD hS hA hX [0, 1] [] rfl rfl (by decide) (by decide) (by decide) rfl rfl rfl rfl hl.1 (Nat.le_of_ble_eq_true rfl) dRow_below_9 ⟨Nat.le_of_ble_eq_true rfl, Nat.le_of_ble_eq_true rfl⟩ (fun r_2 u_1 H locs hw hP hD hS => ?_)
  obtain rfl := hw
  have hP : va_P (dC, dI) xCl [(h0, .inr (2, [.ref h1, .int (nI n)])), (h1, .inl (kI, cap, .inl f))] H := hP
  have hD : va_D A [(h0, .inr (2, [.ref h1, .int (nI n)])), (h1, .inl (kI, cap, .inl f))] := hD
  exact hret (f (n - 1 - j)) (()) _ _ _ (rfl) (hP.sub [0, 1] rfl) (hD.sub [0, 1] (by decide) rfl) hS dRow_below_12

set_option maxHeartbeats 4000000 in
set_option maxRecDepth 100000 in
theorem kRow_take (l : Launch) (dC : Nat → ClassId) (dI : Nat → Nat → Nat) (kI kJ kZ : ClassId) (h0 : Nat) (h1 : Nat) (cap : Nat) (n : Nat) (f : Nat → Int32) (hn : n ≤ cap) (hc : cap < 2 ^ 30) (h0n : 0 < n) :
    XM stX l yRow_take wRow_take { frames := 0, cells := 0, slots := 0, locals := 0 } (dC, dI) xCl (x_T kI kJ kZ) [(h0, .inr (2, [.ref h1, .int (nI n)])), (h1, .inl (kI, cap, .inl f))] [.ref h0] 0 0 x_eI (fun (r : Int32) (u : Unit) => r = f (n - 1)) (fun (u : Unit) => [(h0, .inr (2, [.ref h1, .int (nI (n - 1))])), (h1, .inl (kI, cap, .inl f))]) := by
  refine XM.ofI (cc := cRow_take) (maxL := 1) (by decide) rfl (Nat.le_of_ble_eq_true rfl) ?_
  intro p e s m below meth c A Q hx hb hr hml hown hts hlocks hin hA hK hP hD hX hS ls hl hret
  have hl : lv_has ls 1 [(0, .ref h0)] := hl
  refine lv_aload_n hx hb dRow_take_0 rfl (lv_at hl 0 rfl) ?_
  refine va_get (D := (dC, dI)) (ci := 2) (v := .int (nI n)) (C := RRow) (T := TRow) (N := 2) hx hb hts (fun w h => List.mem_cons_of_mem _ (layRow w h)) hown hK hP 0 rfl rfl 1 (by decide) (hts (.fieldLink RRow 19 "CallLedger$Row" "count" "I") (List.mem_cons_of_mem _ gw126)) (fun _ h9 => h9) rfl dRow_take_1 ?_
  refine lv_if_gt (tgt := 9) hx hb dRow_take_4 (by decide) (fun c4 => ?_) (fun c4 => ?_)
  · have c4 : 0 < n := (nI_ltI (a := 0) (b := n) (by omega) (by omega)).mp c4
    refine lv_aload_n hx hb dRow_take_9 rfl (lv_at hl 0 rfl) ?_
    refine lv_dup hx hb dRow_take_10 rfl ?_
    refine va_get (D := (dC, dI)) (ci := 2) (v := .int (nI n)) (C := RRow) (T := TRow) (N := 2) hx hb hts (fun w h => List.mem_cons_of_mem _ (layRow w h)) hown hK hP 0 rfl rfl 1 (by decide) (hts (.fieldLink RRow 19 "CallLedger$Row" "count" "I") (List.mem_cons_of_mem _ gw126)) (fun _ h9 => h9) rfl dRow_take_11 ?_
    refine lv_iconst (v := 1) hx hb dRow_take_14 (by decide) ?_
    refine lv_isub hx hb dRow_take_15 ?_
    refine x_topi (y := nI (n - 1)) (x_pred (by omega)) ?_
    refine va_put (D := (dC, dI)) (ci := 2) (v := .int (nI (n - 1))) (ty := .int) (C := RRow) (T := TRow) (N := 2) hx hb hts (fun w h => List.mem_cons_of_mem _ (layRow w h)) tyRow tykRow nmRow hown hK hP hD hS 0 rfl rfl 1 (by decide) (hts (.fieldLink RRow 19 "CallLedger$Row" "count" "I") (List.mem_cons_of_mem _ gw126)) (fun _ h9 => h9) rfl (by decide +kernel) rfl rfl (Nat.le_of_ble_eq_true rfl) dRow_take_16 (fun H locs hP hD hS => ?_)
    have hP : va_P (dC, dI) xCl [(h0, .inr (2, [.ref h1, .int (nI (n - 1))])), (h1, .inl (kI, cap, .inl f))] H := hP
    have hD : va_D A [(h0, .inr (2, [.ref h1, .int (nI (n - 1))])), (h1, .inl (kI, cap, .inl f))] := hD
    refine lv_aload_n hx hb dRow_take_19 rfl (lv_at hl 0 rfl) ?_
    refine va_get (D := (dC, dI)) (ci := 2) (v := .ref h1) (C := RRow) (T := TRow) (N := 2) hx hb hts (fun w h => List.mem_cons_of_mem _ (layRow w h)) hown hK hP 0 rfl rfl 0 (by decide) (hts (.fieldLink RRow 13 "CallLedger$Row" "numbers" "[I") (List.mem_cons_of_mem _ gw125)) (fun _ h9 => h9) rfl dRow_take_20 ?_
    refine lv_aload_n hx hb dRow_take_23 rfl (lv_at hl 0 rfl) ?_
    refine va_get (D := (dC, dI)) (ci := 2) (v := .int (nI (n - 1))) (C := RRow) (T := TRow) (N := 2) hx hb hts (fun w h => List.mem_cons_of_mem _ (layRow w h)) hown hK hP 0 rfl rfl 1 (by decide) (hts (.fieldLink RRow 19 "CallLedger$Row" "count" "I") (List.mem_cons_of_mem _ gw126)) (fun _ h9 => h9) rfl dRow_take_24 ?_
    refine x_iald (j := n - 1) hx hb hK hP 1 0 rfl rfl rfl (by omega) (by omega) dRow_take_27 ?_
    exact hret (f (n - 1)) (()) _ _ _ (rfl) (hP.sub [0, 1] rfl) (hD.sub [0, 1] (by decide) rfl) hS dRow_take_28
  · have c4 : ¬ (0 < n) := fun z9 => c4 ((nI_ltI (a := 0) (b := n) (by omega) (by omega)).mpr z9)
    exfalso; omega

set_option maxHeartbeats 4000000 in
set_option maxRecDepth 100000 in
theorem kRow_swap (l : Launch) (dC : Nat → ClassId) (dI : Nat → Nat → Nat) (kI kJ kZ : ClassId) (h0 : Nat) (h1 : Nat) (cap : Nat) (n : Nat) (f : Nat → Int32) (j : Nat) (hn : n ≤ cap) (hc : cap < 2 ^ 30) (hj : j < n) (hj1 : 1 ≤ j) :
    XM stX l yRow_swap wRow_swap { frames := 0, cells := 0, slots := 0, locals := 0 } (dC, dI) xCl (x_T kI kJ kZ) [(h0, .inr (2, [.ref h1, .int (nI n)])), (h1, .inl (kI, cap, .inl f))] [.ref h0, .int (nI j)] 0 0 x_eV (fun (r : Unit) (u : Unit) => True) (fun (u : Unit) => [(h0, .inr (2, [.ref h1, .int (nI n)])), (h1, .inl (kI, cap, .inl (upd (upd f (n - 1) (f (n - 1 - j))) (n - 1 - j) (f (n - 1)))))]) := by
  refine XM.ofV (cc := cRow_swap) (maxL := 5) (by decide) rfl (Nat.le_of_ble_eq_true rfl) ?_
  intro p e s m below meth c A Q hx hb hr hml hown hts hlocks hin hA hK hP hD hX hS ls hl hret
  have hl : lv_has ls 5 [(0, .ref h0), (1, .int (nI j))] := hl
  refine lv_aload_n hx hb dRow_swap_0 rfl (lv_at hl 0 rfl) ?_
  refine va_get (D := (dC, dI)) (ci := 2) (v := .int (nI n)) (C := RRow) (T := TRow) (N := 2) hx hb hts (fun w h => List.mem_cons_of_mem _ (layRow w h)) hown hK hP 0 rfl rfl 1 (by decide) (hts (.fieldLink RRow 19 "CallLedger$Row" "count" "I") (List.mem_cons_of_mem _ gw126)) (fun _ h9 => h9) rfl dRow_swap_1 ?_
  refine lv_iconst (v := 1) hx hb dRow_swap_4 (by decide) ?_
  refine lv_isub hx hb dRow_swap_5 ?_
  refine x_topi (y := nI (n - 1)) (x_pred (by omega)) ?_
  refine lv_istore_n (lv' := [(2, .int (nI (n - 1))), (0, .ref h0), (1, .int (nI j))]) hx hb dRow_swap_6 rfl hl (by decide) rfl (fun ls hl => ?_)
  refine lv_iload_n hx hb dRow_swap_7 rfl (lv_at hl 0 rfl) ?_
  refine lv_iload_n hx hb dRow_swap_8 rfl (lv_at hl 2 rfl) ?_
  refine lv_isub hx hb dRow_swap_9 ?_
  refine x_topi (y := nI (n - 1 - j)) (pk_sub (by omega)) ?_
  refine lv_istore_n (lv' := [(3, .int (nI (n - 1 - j))), (2, .int (nI (n - 1))), (0, .ref h0), (1, .int (nI j))]) hx hb dRow_swap_10 rfl hl (by decide) rfl (fun ls hl => ?_)
  refine lv_iload_n hx hb dRow_swap_11 rfl (lv_at hl 0 rfl) ?_
  refine lv_if_lt (tgt := 48) hx hb dRow_swap_12 (by decide) (fun c12 => ?_) (fun c12 => ?_)
  · have c12 : (n - 1 - j) < 0 := (nI_ltI (a := (n - 1 - j)) (b := 0) (by omega) (by omega)).mp c12
    exfalso; omega
  · have c12 : ¬ ((n - 1 - j) < 0) := fun z9 => c12 ((nI_ltI (a := (n - 1 - j)) (b := 0) (by omega) (by omega)).mpr z9)
    refine lv_iload_n hx hb dRow_swap_15 rfl (lv_at hl 0 rfl) ?_
    refine lv_iload_n hx hb dRow_swap_16 rfl (lv_at hl 1 rfl) ?_
    refine lv_icmp_ge (tgt := 48) hx hb dRow_swap_17 (by decide) (fun c17 => ?_) (fun c17 => ?_)
    · have c17 : (n - 1) ≤ (n - 1 - j) := (nI_leI (a := (n - 1)) (b := (n - 1 - j)) (by omega) (by omega)).mp c17
      exfalso; omega
    · have c17 : ¬ ((n - 1) ≤ (n - 1 - j)) := fun z9 => c17 ((nI_leI (a := (n - 1)) (b := (n - 1 - j)) (by omega) (by omega)).mpr z9)
      refine lv_aload_n hx hb dRow_swap_20 rfl (lv_at hl 2 rfl) ?_
      refine va_get (D := (dC, dI)) (ci := 2) (v := .ref h1) (C := RRow) (T := TRow) (N := 2) hx hb hts (fun w h => List.mem_cons_of_mem _ (layRow w h)) hown hK hP 0 rfl rfl 0 (by decide) (hts (.fieldLink RRow 13 "CallLedger$Row" "numbers" "[I") (List.mem_cons_of_mem _ gw125)) (fun _ h9 => h9) rfl dRow_swap_21 ?_
      refine lv_iload_n hx hb dRow_swap_24 rfl (lv_at hl 1 rfl) ?_
      refine x_iald (j := n - 1) hx hb hK hP 1 0 rfl rfl rfl (by omega) (by omega) dRow_swap_25 ?_
      refine lv_istore (lv' := [(4, .int (f (n - 1))), (3, .int (nI (n - 1 - j))), (2, .int (nI (n - 1))), (0, .ref h0), (1, .int (nI j))]) hx hb dRow_swap_26 hl (by decide) rfl (fun ls hl => ?_)
      refine lv_aload_n hx hb dRow_swap_28 rfl (lv_at hl 3 rfl) ?_
      refine va_get (D := (dC, dI)) (ci := 2) (v := .ref h1) (C := RRow) (T := TRow) (N := 2) hx hb hts (fun w h => List.mem_cons_of_mem _ (layRow w h)) hown hK hP 0 rfl rfl 0 (by decide) (hts (.fieldLink RRow 13 "CallLedger$Row" "numbers" "[I") (List.mem_cons_of_mem _ gw125)) (fun _ h9 => h9) rfl dRow_swap_29 ?_
      refine lv_iload_n hx hb dRow_swap_32 rfl (lv_at hl 2 rfl) ?_
      refine lv_aload_n hx hb dRow_swap_33 rfl (lv_at hl 3 rfl) ?_
      refine va_get (D := (dC, dI)) (ci := 2) (v := .ref h1) (C := RRow) (T := TRow) (N := 2) hx hb hts (fun w h => List.mem_cons_of_mem _ (layRow w h)) hown hK hP 0 rfl rfl 0 (by decide) (hts (.fieldLink RRow 13 "CallLedger$Row" "numbers" "[I") (List.mem_cons_of_mem _ gw125)) (fun _ h9 => h9) rfl dRow_swap_34 ?_
      refine lv_iload_n hx hb dRow_swap_37 rfl (lv_at hl 1 rfl) ?_
      refine x_iald (j := n - 1 - j) hx hb hK hP 1 0 rfl rfl rfl (by omega) (by omega) dRow_swap_38 ?_
      refine x_iast (j := n - 1) hx hb hK hP hD hS 1 0 rfl rfl rfl (by omega) (by omega) dRow_swap_39 (fun H locs hP hD hS => ?_)
      have hP : va_P (dC, dI) xCl [(h0, .inr (2, [.ref h1, .int (nI n)])), (h1, .inl (kI, cap, .inl (upd f (n - 1) (f (n - 1 - j)))))] H := hP
      have hD : va_D A [(h0, .inr (2, [.ref h1, .int (nI n)])), (h1, .inl (kI, cap, .inl (upd f (n - 1) (f (n - 1 - j)))))] := hD
      refine lv_aload_n hx hb dRow_swap_40 rfl (lv_at hl 3 rfl) ?_
      refine va_get (D := (dC, dI)) (ci := 2) (v := .ref h1) (C := RRow) (T := TRow) (N := 2) hx hb hts (fun w h => List.mem_cons_of_mem _ (layRow w h)) hown hK hP 0 rfl rfl 0 (by decide) (hts (.fieldLink RRow 13 "CallLedger$Row" "numbers" "[I") (List.mem_cons_of_mem _ gw125)) (fun _ h9 => h9) rfl dRow_swap_41 ?_
      refine lv_iload_n hx hb dRow_swap_44 rfl (lv_at hl 1 rfl) ?_
      refine lv_iload hx hb dRow_swap_45 (lv_at hl 0 rfl) ?_
      refine x_iast (j := n - 1 - j) hx hb hK hP hD hS 1 0 rfl rfl rfl (by omega) (by omega) dRow_swap_47 (fun H locs hP hD hS => ?_)
      have hP : va_P (dC, dI) xCl [(h0, .inr (2, [.ref h1, .int (nI n)])), (h1, .inl (kI, cap, .inl (upd (upd f (n - 1) (f (n - 1 - j))) (n - 1 - j) (f (n - 1)))))] H := hP
      have hD : va_D A [(h0, .inr (2, [.ref h1, .int (nI n)])), (h1, .inl (kI, cap, .inl (upd (upd f (n - 1) (f (n - 1 - j))) (n - 1 - j) (f (n - 1)))))] := hD
      exact hret  (()) _ _ _ (trivial) (hP.sub [0, 1] rfl) (hD.sub [0, 1] (by decide) rfl) hS dRow_swap_48

set_option maxHeartbeats 4000000 in
set_option maxRecDepth 100000 in
theorem kRow_cutTo (l : Launch) (dC : Nat → ClassId) (dI : Nat → Nat → Nat) (kI kJ kZ : ClassId) (h0 : Nat) (h1 : Nat) (cap : Nat) (n : Nat) (f : Nat → Int32) (k : Nat) (hn : n ≤ cap) (hc : cap < 2 ^ 30) (hk : k ≤ n) :
    XM stX l yRow_cutTo wRow_cutTo { frames := 0, cells := 0, slots := 0, locals := 0 } (dC, dI) xCl (x_T kI kJ kZ) [(h0, .inr (2, [.ref h1, .int (nI n)])), (h1, .inl (kI, cap, .inl f))] [.ref h0, .int (nI k)] 0 0 x_eV (fun (r : Unit) (u : Nat) => u = k) (fun (u : Nat) => [(h0, .inr (2, [.ref h1, .int (nI u)])), (h1, .inl (kI, cap, .inl f))]) := by
  refine XM.ofV (cc := cRow_cutTo) (maxL := 2) (by decide) rfl (Nat.le_of_ble_eq_true rfl) ?_
  intro p e s m below meth c A Q hx hb hr hml hown hts hlocks hin hA hK hP hD hX hS ls hl hret
  have hl : lv_has ls 2 [(0, .ref h0), (1, .int (nI k))] := hl
  refine lv_iload_n hx hb dRow_cutTo_0 rfl (lv_at hl 1 rfl) ?_
  refine lv_if_lt (tgt := 17) hx hb dRow_cutTo_1 (by decide) (fun c1 => ?_) (fun c1 => ?_)
  · have c1 : k < 0 := (nI_ltI (a := k) (b := 0) (by omega) (by omega)).mp c1
    exfalso; omega
  · have c1 : ¬ (k < 0) := fun z9 => c1 ((nI_ltI (a := k) (b := 0) (by omega) (by omega)).mpr z9)
    refine lv_iload_n hx hb dRow_cutTo_4 rfl (lv_at hl 1 rfl) ?_
    refine lv_aload_n hx hb dRow_cutTo_5 rfl (lv_at hl 0 rfl) ?_
    refine va_get (D := (dC, dI)) (ci := 2) (v := .int (nI n)) (C := RRow) (T := TRow) (N := 2) hx hb hts (fun w h => List.mem_cons_of_mem _ (layRow w h)) hown hK hP 0 rfl rfl 1 (by decide) (hts (.fieldLink RRow 19 "CallLedger$Row" "count" "I") (List.mem_cons_of_mem _ gw126)) (fun _ h9 => h9) rfl dRow_cutTo_6 ?_
    refine lv_icmp_ge (tgt := 17) hx hb dRow_cutTo_9 (by decide) (fun c9 => ?_) (fun c9 => ?_)
    · have c9 : n ≤ k := (nI_leI (a := n) (b := k) (by omega) (by omega)).mp c9
      exact hret  (n) _ _ _ (by omega) (hP.sub [0, 1] rfl) (hD.sub [0, 1] (by decide) rfl) hS dRow_cutTo_17
    · have c9 : ¬ (n ≤ k) := fun z9 => c9 ((nI_leI (a := n) (b := k) (by omega) (by omega)).mpr z9)
      refine lv_aload_n hx hb dRow_cutTo_12 rfl (lv_at hl 0 rfl) ?_
      refine lv_iload_n hx hb dRow_cutTo_13 rfl (lv_at hl 1 rfl) ?_
      refine va_put (D := (dC, dI)) (ci := 2) (v := .int (nI k)) (ty := .int) (C := RRow) (T := TRow) (N := 2) hx hb hts (fun w h => List.mem_cons_of_mem _ (layRow w h)) tyRow tykRow nmRow hown hK hP hD hS 0 rfl rfl 1 (by decide) (hts (.fieldLink RRow 19 "CallLedger$Row" "count" "I") (List.mem_cons_of_mem _ gw126)) (fun _ h9 => h9) rfl (by decide +kernel) rfl rfl (Nat.le_of_ble_eq_true rfl) dRow_cutTo_14 (fun H locs hP hD hS => ?_)
      have hP : va_P (dC, dI) xCl [(h0, .inr (2, [.ref h1, .int (nI k)])), (h1, .inl (kI, cap, .inl f))] H := hP
      have hD : va_D A [(h0, .inr (2, [.ref h1, .int (nI k)])), (h1, .inl (kI, cap, .inl f))] := hD
      exact hret  (k) _ _ _ (by omega) (hP.sub [0, 1] rfl) (hD.sub [0, 1] (by decide) rfl) hS dRow_cutTo_17

