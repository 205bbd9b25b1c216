theorem dRow_size_0 : decode cRow_size 0 = .ok (.aload_n 0, 1) := by decide +kernel
theorem dRow_size_1 : decode cRow_size 1 = .ok (.getfield 19, 3) := by decide +kernel
theorem dRow_size_4 : decode cRow_size 4 = .ok (.ireturn, 1) := by decide +kernel
theorem dRow_isFull_0 : decode cRow_isFull 0 = .ok (.aload_n 0, 1) := by decide +kernel
theorem dRow_isFull_1 : decode cRow_isFull 1 = .ok (.getfield 19, 3) := by decide +kernel
theorem dRow_isFull_4 : decode cRow_isFull 4 = .ok (.aload_n 0, 1) := by decide +kernel
theorem dRow_isFull_5 : decode cRow_isFull 5 = .ok (.getfield 13, 3) := by decide +kernel
theorem dRow_isFull_8 : decode cRow_isFull 8 = .ok (.arraylength, 1) := by decide +kernel
theorem dRow_isFull_9 : decode cRow_isFull 9 = .ok (.if_icmp .lt 7, 3) := by decide +kernel
theorem dRow_isFull_12 : decode cRow_isFull 12 = .ok (.iconst 1, 1) := by decide +kernel
theorem dRow_isFull_13 : decode cRow_isFull 13 = .ok (.goto 4, 3) := by decide +kernel
theorem dRow_isFull_16 : decode cRow_isFull 16 = .ok (.iconst 0, 1) := by decide +kernel
theorem dRow_isFull_17 : decode cRow_isFull 17 = .ok (.ireturn, 1) := by decide +kernel
theorem dRow_add_0 : decode cRow_add 0 = .ok (.aload_n 0, 1) := by decide +kernel
theorem dRow_add_1 : decode cRow_add 1 = .ok (.getfield 19, 3) := by decide +kernel
theorem dRow_add_4 : decode cRow_add 4 = .ok (.aload_n 0, 1) := by decide +kernel
theorem dRow_add_5 : decode cRow_add 5 = .ok (.getfield 13, 3) := by decide +kernel
theorem dRow_add_8 : decode cRow_add 8 = .ok (.arraylength, 1) := by decide +kernel
theorem dRow_add_9 : decode cRow_add 9 = .ok (.if_icmp .ge 23, 3) := by decide +kernel
theorem dRow_add_12 : decode cRow_add 12 = .ok (.aload_n 0, 1) := by decide +kernel
theorem dRow_add_13 : decode cRow_add 13 = .ok (.getfield 13, 3) := by decide +kernel
theorem dRow_add_16 : decode cRow_add 16 = .ok (.aload_n 0, 1) := by decide +kernel
theorem dRow_add_17 : decode cRow_add 17 = .ok (.getfield 19, 3) := by decide +kernel
theorem dRow_add_20 : decode cRow_add 20 = .ok (.iload_n 1, 1) := by decide +kernel
theorem dRow_add_21 : decode cRow_add 21 = .ok (.iastore, 1) := by decide +kernel
theorem dRow_add_22 : decode cRow_add 22 = .ok (.aload_n 0, 1) := by decide +kernel
theorem dRow_add_23 : decode cRow_add 23 = .ok (.dup, 1) := by decide +kernel
theorem dRow_add_24 : decode cRow_add 24 = .ok (.getfield 19, 3) := by decide +kernel
theorem dRow_add_27 : decode cRow_add 27 = .ok (.iconst 1, 1) := by decide +kernel
theorem dRow_add_28 : decode cRow_add 28 = .ok (.iadd, 1) := by decide +kernel
theorem dRow_add_29 : decode cRow_add 29 = .ok (.putfield 19, 3) := by decide +kernel
theorem dRow_add_32 : decode cRow_add 32 = .ok (.return_, 1) := by decide +kernel
theorem gw125 : .fieldLink RRow 13 "CallLedger$Row" "numbers" "[I" ∈ xG := List.mem_filter.mpr ⟨List.mem_of_getElem? (i := 125) (by decide +kernel), by decide +kernel⟩
theorem gw126 : .fieldLink RRow 19 "CallLedger$Row" "count" "I" ∈ xG := List.mem_filter.mpr ⟨List.mem_of_getElem? (i := 126) (by decide +kernel), by decide +kernel⟩
set_option maxHeartbeats 4000000 in
set_option maxRecDepth 100000 in
theorem kRow_size (l : Launch) (dC : Nat → ClassId) (dI : Nat → Nat → Nat) (kI kJ kZ : ClassId) (h0 : Nat) (h1 : Nat) (n : Nat)  :
    XM stX l yRow_size wRow_size { frames := 0, cells := 0, slots := 0, locals := 0 } (dC, dI) xCl (x_T kI kJ kZ) [(h0, .inr (2, [.ref h1, .int (nI n)]))] [.ref h0] 0 0 x_eI (fun (r : Int32) (u : Unit) => r = nI n) (fun (u : Unit) => [(h0, .inr (2, [.ref h1, .int (nI n)]))]) := by
  refine XM.ofI (cc := cRow_size) (maxL := 1) (by decide) rfl (Nat.le_of_ble_eq_true rfl) ?_
  intro p e s m below meth c A Q hx hb hr hml hown hts hlocks hin hA hK hP hD hX hS ls hl hret
  have hl : lv_has ls 1 [(0, .ref h0)] := hl
  refine lv_aload_n hx hb dRow_size_0 rfl (lv_at hl 0 rfl) ?_
  refine va_get (D := (dC, dI)) (ci := 2) (v := .int (nI n)) (C := RRow) (T := TRow) (N := 2) hx hb hts (fun w h => List.mem_cons_of_mem _ (layRow w h)) hown hK hP 0 rfl rfl 1 (by decide) (hts (.fieldLink RRow 19 "CallLedger$Row" "count" "I") (List.mem_cons_of_mem _ gw126)) (fun _ h9 => h9) rfl dRow_size_1 ?_
  exact hret (nI n) (()) _ _ _ (rfl) (hP.sub [0] rfl) (hD.sub [0] (by decide) rfl) hS dRow_size_4

set_option maxHeartbeats 4000000 in
set_option maxRecDepth 100000 in
theorem kRow_isFull (l : Launch) (dC : Nat → ClassId) (dI : Nat → Nat → Nat) (kI kJ kZ : ClassId) (h0 : Nat) (h1 : Nat) (cap : Nat) (n : Nat) (f : Nat → Int32) (hn : n ≤ cap) (hc : cap < 2 ^ 30) :
    XM stX l yRow_isFull wRow_isFull { frames := 0, cells := 0, slots := 0, locals := 0 } (dC, dI) xCl (x_T kI kJ kZ) [(h0, .inr (2, [.ref h1, .int (nI n)])), (h1, .inl (kI, cap, .inl f))] [.ref h0] 0 0 x_eI (fun (r : Int32) (u : Unit) => r = if n < cap then 0 else 1) (fun (u : Unit) => [(h0, .inr (2, [.ref h1, .int (nI n)])), (h1, .inl (kI, cap, .inl f))]) := by
  refine XM.ofZ (cc := cRow_isFull) (maxL := 1) (by decide) rfl (Nat.le_of_ble_eq_true rfl) ?_
  intro p e s m below meth c A Q hx hb hr hml hown hts hlocks hin hA hK hP hD hX hS ls hl hret
  have hl : lv_has ls 1 [(0, .ref h0)] := hl
  refine lv_aload_n hx hb dRow_isFull_0 rfl (lv_at hl 0 rfl) ?_
  refine va_get (D := (dC, dI)) (ci := 2) (v := .int (nI n)) (C := RRow) (T := TRow) (N := 2) hx hb hts (fun w h => List.mem_cons_of_mem _ (layRow w h)) hown hK hP 0 rfl rfl 1 (by decide) (hts (.fieldLink RRow 19 "CallLedger$Row" "count" "I") (List.mem_cons_of_mem _ gw126)) (fun _ h9 => h9) rfl dRow_isFull_1 ?_
  refine lv_aload_n hx hb dRow_isFull_4 rfl (lv_at hl 0 rfl) ?_
  refine va_get (D := (dC, dI)) (ci := 2) (v := .ref h1) (C := RRow) (T := TRow) (N := 2) hx hb hts (fun w h => List.mem_cons_of_mem _ (layRow w h)) hown hK hP 0 rfl rfl 0 (by decide) (hts (.fieldLink RRow 13 "CallLedger$Row" "numbers" "[I") (List.mem_cons_of_mem _ gw125)) (fun _ h9 => h9) rfl dRow_isFull_5 ?_
  refine va_alen (v := nI cap) hx hb hK hP 1 0 rfl rfl rfl dRow_isFull_8 ?_
  refine lv_icmp_lt (tgt := 16) hx hb dRow_isFull_9 (by decide) (fun c9 => ?_) (fun c9 => ?_)
  · have c9 : n < cap := (nI_ltI (a := n) (b := cap) (by omega) (by omega)).mp c9
    refine lv_iconst (v := 0) hx hb dRow_isFull_16 (by decide) ?_
    exact hret 0 (())  (rfl) _ _ _ (by first | rfl | (split <;> first | rfl | omega) | (simp_all; done)) (hP.sub [0, 1] rfl) (hD.sub [0, 1] (by decide) rfl) hS dRow_isFull_17
  · have c9 : ¬ (n < cap) := fun z => c9 ((nI_ltI (a := n) (b := cap) (by omega) (by omega)).mpr z)
    refine lv_iconst (v := 1) hx hb dRow_isFull_12 (by decide) ?_
    refine lv_goto (tgt := 17) hx hb dRow_isFull_13 (by decide) ?_
    exact hret 1 (())  (rfl) _ _ _ (by first | rfl | (split <;> first | rfl | omega) | (simp_all; done)) (hP.sub [0, 1] rfl) (hD.sub [0, 1] (by decide) rfl) hS dRow_isFull_17

set_option maxHeartbeats 4000000 in
set_option maxRecDepth 100000 in
theorem kRow_add (l : Launch) (dC : Nat → ClassId) (dI : Nat → Nat → Nat) (kI kJ kZ : ClassId) (h0 : Nat) (h1 : Nat) (cap : Nat) (n : Nat) (f : Nat → Int32) (x : Int32) (hn : n ≤ cap) (hc : cap < 2 ^ 30) (hlt : n < cap) :
    XM stX l yRow_add wRow_add { frames := 0, cells := 0, slots := 0, locals := 0 } (dC, dI) xCl (x_T kI kJ kZ) [(h0, .inr (2, [.ref h1, .int (nI n)])), (h1, .inl (kI, cap, .inl f))] [.ref h0, .int x] 0 0 x_eV (fun (r : Unit) (u : Unit) => True) (fun (u : Unit) => [(h0, .inr (2, [.ref h1, .int (nI (n + 1))])), (h1, .inl (kI, cap, .inl (upd f n x)))]) := by
  refine XM.ofV (cc := cRow_add) (maxL := 2) (by decide) rfl (Nat.le_of_ble_eq_true rfl) ?_
  intro p e s m below meth c A Q hx hb hr hml hown hts hlocks hin hA hK hP hD hX hS ls hl hret
  have hl : lv_has ls 2 [(0, .ref h0), (1, .int x)] := hl
  refine lv_aload_n hx hb dRow_add_0 rfl (lv_at hl 0 rfl) ?_
  refine va_get (D := (dC, dI)) (ci := 2) (v := .int (nI n)) (C := RRow) (T := TRow) (N := 2) hx hb hts (fun w h => List.mem_cons_of_mem _ (layRow w h)) hown hK hP 0 rfl rfl 1 (by decide) (hts (.fieldLink RRow 19 "CallLedger$Row" "count" "I") (List.mem_cons_of_mem _ gw126)) (fun _ h9 => h9) rfl dRow_add_1 ?_
  refine lv_aload_n hx hb dRow_add_4 rfl (lv_at hl 0 rfl) ?_
  refine va_get (D := (dC, dI)) (ci := 2) (v := .ref h1) (C := RRow) (T := TRow) (N := 2) hx hb hts (fun w h => List.mem_cons_of_mem _ (layRow w h)) hown hK hP 0 rfl rfl 0 (by decide) (hts (.fieldLink RRow 13 "CallLedger$Row" "numbers" "[I") (List.mem_cons_of_mem _ gw125)) (fun _ h9 => h9) rfl dRow_add_5 ?_
  refine va_alen (v := nI cap) hx hb hK hP 1 0 rfl rfl rfl dRow_add_8 ?_
  refine lv_icmp_ge (tgt := 32) hx hb dRow_add_9 (by decide) (fun c9 => ?_) (fun c9 => ?_)
  · have c9 : cap ≤ n := (nI_leI (a := cap) (b := n) (by omega) (by omega)).mp c9
    exfalso; omega
  · have c9 : ¬ (cap ≤ n) := fun z => c9 ((nI_leI (a := cap) (b := n) (by omega) (by omega)).mpr z)
    refine lv_aload_n hx hb dRow_add_12 rfl (lv_at hl 0 rfl) ?_
    refine va_get (D := (dC, dI)) (ci := 2) (v := .ref h1) (C := RRow) (T := TRow) (N := 2) hx hb hts (fun w h => List.mem_cons_of_mem _ (layRow w h)) hown hK hP 0 rfl rfl 0 (by decide) (hts (.fieldLink RRow 13 "CallLedger$Row" "numbers" "[I") (List.mem_cons_of_mem _ gw125)) (fun _ h9 => h9) rfl dRow_add_13 ?_
    refine lv_aload_n hx hb dRow_add_16 rfl (lv_at hl 0 rfl) ?_
    refine va_get (D := (dC, dI)) (ci := 2) (v := .int (nI n)) (C := RRow) (T := TRow) (N := 2) hx hb hts (fun w h => List.mem_cons_of_mem _ (layRow w h)) hown hK hP 0 rfl rfl 1 (by decide) (hts (.fieldLink RRow 19 "CallLedger$Row" "count" "I") (List.mem_cons_of_mem _ gw126)) (fun _ h9 => h9) rfl dRow_add_17 ?_
    refine lv_iload_n hx hb dRow_add_20 rfl (lv_at hl 1 rfl) ?_
    refine x_iast (j := n) hx hb hK hP hD hS 1 0 rfl rfl rfl (by omega) (by omega) dRow_add_21 (fun H locs hP hD hS => ?_)
    have hP : va_P (dC, dI) xCl [(h0, .inr (2, [.ref h1, .int (nI n)])), (h1, .inl (kI, cap, .inl (upd f n x)))] H := hP
    have hD : va_D A [(h0, .inr (2, [.ref h1, .int (nI n)])), (h1, .inl (kI, cap, .inl (upd f n x)))] := hD
    refine lv_aload_n hx hb dRow_add_22 rfl (lv_at hl 0 rfl) ?_
    refine lv_dup hx hb dRow_add_23 rfl ?_
    refine va_get (D := (dC, dI)) (ci := 2) (v := .int (nI n)) (C := RRow) (T := TRow) (N := 2) hx hb hts (fun w h => List.mem_cons_of_mem _ (layRow w h)) hown hK hP 0 rfl rfl 1 (by decide) (hts (.fieldLink RRow 19 "CallLedger$Row" "count" "I") (List.mem_cons_of_mem _ gw126)) (fun _ h9 => h9) rfl dRow_add_24 ?_
    refine lv_iconst (v := 1) hx hb dRow_add_27 (by decide) ?_
    refine lv_iadd hx hb dRow_add_28 ?_
    refine x_topi (y := nI (n + 1)) (nI_1 _) ?_
    refine va_put (D := (dC, dI)) (ci := 2) (v := .int (nI (n + 1))) (ty := .int) (C := RRow) (T := TRow) (N := 2) hx hb hts (fun w h => List.mem_cons_of_mem _ (layRow w h)) tyRow tykRow nmRow hown hK hP hD hS 0 rfl rfl 1 (by decide) (hts (.fieldLink RRow 19 "CallLedger$Row" "count" "I") (List.mem_cons_of_mem _ gw126)) (fun _ h9 => h9) rfl (by decide +kernel) rfl rfl (Nat.le_of_ble_eq_true rfl) dRow_add_29 (fun H locs hP hD hS => ?_)
    have hP : va_P (dC, dI) xCl [(h0, .inr (2, [.ref h1, .int (nI (n + 1))])), (h1, .inl (kI, cap, .inl (upd f n x)))] H := hP
    have hD : va_D A [(h0, .inr (2, [.ref h1, .int (nI (n + 1))])), (h1, .inl (kI, cap, .inl (upd f n x)))] := hD
    exact hret  (()) _ _ _ (trivial) (hP.sub [0, 1] rfl) (hD.sub [0, 1] (by decide) rfl) hS dRow_add_32

set_option maxHeartbeats 4000000 in
set_option maxRecDepth 100000 in
theorem kRow_addFull (l : Launch) (dC : Nat → ClassId) (dI : Nat → Nat → Nat) (kI kJ kZ : ClassId) (h0 : Nat) (h1 : Nat) (cap : Nat) (n : Nat) (f : Nat → Int32) (x : Int32) (hn : n ≤ cap) (hc : cap < 2 ^ 30) (hge : cap ≤ n) :
    XM stX l yRow_add wRow_add { frames := 0, cells := 0, slots := 0, locals := 0 } (dC, dI) xCl (x_T kI kJ kZ) [(h0, .inr (2, [.ref h1, .int (nI n)])), (h1, .inl (kI, cap, .inl f))] [.ref h0, .int x] 0 0 x_eV (fun (r : Unit) (u : Unit) => True) (fun (u : Unit) => [(h0, .inr (2, [.ref h1, .int (nI n)])), (h1, .inl (kI, cap, .inl f))]) := by
  refine XM.ofV (cc := cRow_add) (maxL := 2) (by decide) rfl (Nat.le_of_ble_eq_true rfl) ?_
  intro p e s m below meth c A Q hx hb hr hml hown hts hlocks hin hA hK hP hD hX hS ls hl hret
  have hl : lv_has ls 2 [(0, .ref h0), (1, .int x)] := hl
  refine lv_aload_n hx hb dRow_add_0 rfl (lv_at hl 0 rfl) ?_
  refine va_get (D := (dC, dI)) (ci := 2) (v := .int (nI n)) (C := RRow) (T := TRow) (N := 2) hx hb hts (fun w h => List.mem_cons_of_mem _ (layRow w h)) hown hK hP 0 rfl rfl 1 (by decide) (hts (.fieldLink RRow 19 "CallLedger$Row" "count" "I") (List.mem_cons_of_mem _ gw126)) (fun _ h9 => h9) rfl dRow_add_1 ?_
  refine lv_aload_n hx hb dRow_add_4 rfl (lv_at hl 0 rfl) ?_
  refine va_get (D := (dC, dI)) (ci := 2) (v := .ref h1) (C := RRow) (T := TRow) (N := 2) hx hb hts (fun w h => List.mem_cons_of_mem _ (layRow w h)) hown hK hP 0 rfl rfl 0 (by decide) (hts (.fieldLink RRow 13 "CallLedger$Row" "numbers" "[I") (List.mem_cons_of_mem _ gw125)) (fun _ h9 => h9) rfl dRow_add_5 ?_
  refine va_alen (v := nI cap) hx hb hK hP 1 0 rfl rfl rfl dRow_add_8 ?_
  refine lv_icmp_ge (tgt := 32) hx hb dRow_add_9 (by decide) (fun c9 => ?_) (fun c9 => ?_)
  · have c9 : cap ≤ n := (nI_leI (a := cap) (b := n) (by omega) (by omega)).mp c9
    exact hret  (()) _ _ _ (trivial) (hP.sub [0, 1] rfl) (hD.sub [0, 1] (by decide) rfl) hS dRow_add_32
  · have c9 : ¬ (cap ≤ n) := fun z => c9 ((nI_leI (a := cap) (b := n) (by omega) (by omega)).mpr z)
    exfalso; omega

