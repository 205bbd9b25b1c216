theorem gw47 : .initialized nIAE ∈ xG := List.mem_filter.mpr ⟨List.mem_of_getElem? (i := 47) (by decide +kernel), by decide +kernel⟩
theorem gw48 : .initialized nIOB ∈ xG := List.mem_filter.mpr ⟨List.mem_of_getElem? (i := 48) (by decide +kernel), by decide +kernel⟩
theorem gw49 : .initialized nISE ∈ xG := List.mem_filter.mpr ⟨List.mem_of_getElem? (i := 49) (by decide +kernel), by decide +kernel⟩
theorem gw270 : .classLink RLed 48 nIAE ∈ xG := List.mem_filter.mpr ⟨List.mem_of_getElem? (i := 270) (by decide +kernel), by decide +kernel⟩
theorem gw361 : .classLink RLed 126 nIOB ∈ xG := List.mem_filter.mpr ⟨List.mem_of_getElem? (i := 361) (by decide +kernel), by decide +kernel⟩
theorem gw388 : .classLink RLed 146 nISE ∈ xG := List.mem_filter.mpr ⟨List.mem_of_getElem? (i := 388) (by decide +kernel), by decide +kernel⟩
set_option maxHeartbeats 4000000 in
set_option maxRecDepth 100000 in
theorem kT_reqA (l : Launch) (hl0 : l.stackTraces = false) (dC : Nat → ClassId) (dI : Nat → Nat → Nat) (kI kJ kZ : ClassId) (x0 : Nat) (qc : Nat) (qb : Nat) (qs : Nat) (qk : Nat) (r0 : Nat) (lu : Int32) (lr : Int32) (qb1 : Nat) (nA : Nat) (x : Int32) (hnA : nA ≤ 24) (hxa : xHas nA x = false) :
    XT stY l yLed_requireAccount wLed_requireAccount { frames := 6, cells := 1, slots := 6, locals := 90 } (dC, dI) xCl (x_T kI kJ kZ) [(x0, .inr (5, [.ref qc, .ref qb, .ref qs, .ref qk, .ref r0, .int lu, .int lr])), (qb, .inr (0, [.ref qb1, .int (nI nA)]))] [.ref x0, .int x] 1 6 nIOB := by
  refine XT.of (cc := cLed_requireAccount) (maxL := 2) (ret := none) (by decide) rfl (Nat.le_of_ble_eq_true rfl) ?_
  intro p e s m below meth c A hx hb hml hown hts hlocks hex hA hK hP hD hX hS ls hl
  have hl : lv_has ls 2 [(0, .ref x0), (1, .int x)] := hl
  refine lv_aload_n hx hb dLed_requireAccount_0 rfl (lv_at hl 0 rfl) ?_
  refine va_get (D := (dC, dI)) (ci := 5) (v := .ref qb) (C := RLed) (T := TLed) (N := 7) hx hb hts (fun w h => List.mem_cons_of_mem _ (layLed w h)) hown hK hP 0 rfl rfl 1 (by decide) (hts (.fieldLink RLed 19 "CallLedger" "balances" "LCallLedger$Balances;") (List.mem_cons_of_mem _ gw197)) (fun _ h9 => h9) rfl dLed_requireAccount_1 ?_
  refine lv_iload_n hx hb dLed_requireAccount_4 rfl (lv_at hl 1 rfl) ?_
  refine XM.callVi (As := [.int x]) (rest := []) (wr := [(x0, .inr (5, [.ref qc, .ref qb, .ref qs, .ref qk, .ref r0, .int lu, .int lr]))]) stX_ok ⟨hx, hb, hml, hown, hts⟩ (kBal_has l dC dI kI kJ kZ qb qb1 nA x (by first | assumption | omega)) (cwV 1 hts (x_gV gw357 gw358 gw359 gw38 gw360) rfl rfl rfl (by decide +kernel) ⟨Nat.le_of_ble_eq_true rfl, Nat.le_of_ble_eq_true rfl⟩) hK hP hD hS hA hX.1 [1] [0] rfl rfl (by decide) (by decide) (by decide) rfl rfl rfl rfl hl.1 (Nat.le_of_ble_eq_true rfl) dLed_requireAccount_5 ⟨Nat.le_of_ble_eq_true rfl, Nat.le_of_ble_eq_true rfl⟩ (fun r_2 u_1 H locs hw hP hD hS => ?_)
  obtain rfl := hw
  have hP : va_P (dC, dI) xCl [(x0, .inr (5, [.ref qc, .ref qb, .ref qs, .ref qk, .ref r0, .int lu, .int lr])), (qb, .inr (0, [.ref qb1, .int (nI nA)]))] H := hP
  have hD : va_D A [(x0, .inr (5, [.ref qc, .ref qb, .ref qs, .ref qk, .ref r0, .int lu, .int lr])), (qb, .inr (0, [.ref qb1, .int (nI nA)]))] := hD
  refine lv_if_ne (tgt := 21) hx hb dLed_requireAccount_8 (by decide) (fun c8 => ?_) (fun c8 => ?_)
  · have c8 : (xHas nA x = true) := Classical.not_not.mp (fun z9 => c8 (x_i10.mpr z9))
    exact absurd c8 (by rw [hxa]; decide)
  · have c8 : xHas nA x = false := Bool.eq_false_iff.mpr (x_i10.mp c8)
    exact x_throw hl0 hx hb hml hown hts hX (by decide) gw361 gw48 (List.mem_of_getElem? (i := 1) rfl) x_thIOB hP hS hl.1 dLed_requireAccount_11 dLed_requireAccount_14 dLed_requireAccount_15 dLed_requireAccount_17 dLed_requireAccount_20 hex hlocks [0, 1] rfl (Nat.le_of_ble_eq_true rfl) (Nat.le_of_ble_eq_true rfl) (Nat.le_of_ble_eq_true rfl) (Nat.le_of_ble_eq_true rfl) (Nat.le_of_ble_eq_true rfl) (Nat.le_of_ble_eq_true rfl)

set_option maxHeartbeats 4000000 in
set_option maxRecDepth 100000 in
theorem kT_reqU (l : Launch) (hl0 : l.stackTraces = false) (dC : Nat → ClassId) (dI : Nat → Nat → Nat) (kI kJ kZ : ClassId) (x0 : Nat) (qc : Nat) (qb : Nat) (qs : Nat) (qk : Nat) (r0 : Nat) (lu : Int32) (lr : Int32) (qc1 : Nat) (qc2 : Nat) (qc3 : Nat) (cw : Nat → Int32) (lc : Nat → Nat) (z : Nat → Bool) (a : Nat) (ha : a < 24) (hz : z a = true) :
    XT stY l yLed_requireUnsealed wLed_requireUnsealed { frames := 6, cells := 1, slots := 6, locals := 90 } (dC, dI) xCl (x_T kI kJ kZ) [(x0, .inr (5, [.ref qc, .ref qb, .ref qs, .ref qk, .ref r0, .int lu, .int lr])), (qc, .inr (1, [.ref qc1, .ref qc2, .ref qc3])), (qc1, .inl (kI, 3840, .inl cw)), (qc2, .inl (kI, 24, .inl (fun j => nI (lc j)))), (qc3, .inl (kZ, 24, .inl (fun j => x_b (z j))))] [.ref x0, .int (nI a)] 1 6 nISE := by
  refine XT.of (cc := cLed_requireUnsealed) (maxL := 2) (ret := none) (by decide) rfl (Nat.le_of_ble_eq_true rfl) ?_
  intro p e s m below meth c A hx hb hml hown hts hlocks hex hA hK hP hD hX hS ls hl
  have hl : lv_has ls 2 [(0, .ref x0), (1, .int (nI a))] := hl
  refine lv_aload_n hx hb dLed_requireUnsealed_0 rfl (lv_at hl 0 rfl) ?_
  refine va_get (D := (dC, dI)) (ci := 5) (v := .ref qc) (C := RLed) (T := TLed) (N := 7) hx hb hts (fun w h => List.mem_cons_of_mem _ (layLed w h)) hown hK hP 0 rfl rfl 0 (by decide) (hts (.fieldLink RLed 12 "CallLedger" "codes" "LCallLedger$Codes;") (List.mem_cons_of_mem _ gw196)) (fun _ h9 => h9) rfl dLed_requireUnsealed_1 ?_
  refine lv_iload_n hx hb dLed_requireUnsealed_4 rfl (lv_at hl 1 rfl) ?_
  refine XM.callVi (As := [.int (nI a)]) (rest := []) (wr := [(x0, .inr (5, [.ref qc, .ref qb, .ref qs, .ref qk, .ref r0, .int lu, .int lr]))]) stX_ok ⟨hx, hb, hml, hown, hts⟩ (kCod_isSealed l dC dI kI kJ kZ qc qc1 qc2 qc3 cw lc z a (by first | assumption | omega)) (cwV 1 hts (x_gV gw381 gw382 gw383 gw37 gw384) rfl rfl rfl (by decide +kernel) ⟨Nat.le_of_ble_eq_true rfl, Nat.le_of_ble_eq_true rfl⟩) hK hP hD hS hA hX.1 [1, 2, 3, 4] [0] rfl rfl (by decide) (by decide) (by decide) rfl rfl rfl rfl hl.1 (Nat.le_of_ble_eq_true rfl) dLed_requireUnsealed_5 ⟨Nat.le_of_ble_eq_true rfl, Nat.le_of_ble_eq_true rfl⟩ (fun r_2 u_1 H locs hw hP hD hS => ?_)
  obtain rfl := hw
  have hP : va_P (dC, dI) xCl [(x0, .inr (5, [.ref qc, .ref qb, .ref qs, .ref qk, .ref r0, .int lu, .int lr])), (qc, .inr (1, [.ref qc1, .ref qc2, .ref qc3])), (qc1, .inl (kI, 3840, .inl cw)), (qc2, .inl (kI, 24, .inl (fun j => nI (lc j)))), (qc3, .inl (kZ, 24, .inl (fun j => x_b (z j))))] H := hP
  have hD : va_D A [(x0, .inr (5, [.ref qc, .ref qb, .ref qs, .ref qk, .ref r0, .int lu, .int lr])), (qc, .inr (1, [.ref qc1, .ref qc2, .ref qc3])), (qc1, .inl (kI, 3840, .inl cw)), (qc2, .inl (kI, 24, .inl (fun j => nI (lc j)))), (qc3, .inl (kZ, 24, .inl (fun j => x_b (z j))))] := hD
  refine lv_if_eq (tgt := 21) hx hb dLed_requireUnsealed_8 (by decide) (fun c8 => ?_) (fun c8 => ?_)
  · have c8 : (z a) = false := x_b0.mp c8
    exact absurd c8 (by rw [hz]; decide)
  · have c8 : (z a) = true := Bool.of_not_eq_false (fun z9 => c8 (x_b0.mpr z9))
    exact x_throw hl0 hx hb hml hown hts hX (by decide) gw388 gw49 (List.mem_of_getElem? (i := 2) rfl) x_thISE hP hS hl.1 dLed_requireUnsealed_11 dLed_requireUnsealed_14 dLed_requireUnsealed_15 dLed_requireUnsealed_17 dLed_requireUnsealed_20 hex hlocks [0, 1, 2, 3, 4] rfl (Nat.le_of_ble_eq_true rfl) (Nat.le_of_ble_eq_true rfl) (Nat.le_of_ble_eq_true rfl) (Nat.le_of_ble_eq_true rfl) (Nat.le_of_ble_eq_true rfl) (Nat.le_of_ble_eq_true rfl)

set_option maxHeartbeats 4000000 in
set_option maxRecDepth 100000 in
theorem kT_open (l : Launch) (hl0 : l.stackTraces = false) (dC : Nat → ClassId) (dI : Nat → Nat → Nat) (kI kJ kZ : ClassId) (x0 : Nat) (qc : Nat) (qb : Nat) (qs : Nat) (qk : Nat) (r0 : Nat) (lu : Int32) (lr : Int32) (x : Int32) (hxa : x < 0) :
    XT stY l yLed_open wLed_open { frames := 6, cells := 1, slots := 6, locals := 90 } (dC, dI) xCl (x_T kI kJ kZ) [(x0, .inr (5, [.ref qc, .ref qb, .ref qs, .ref qk, .ref r0, .int lu, .int lr]))] [.ref x0, .int x] 1 6 nIAE := by
  refine XT.of (cc := cLed_open) (maxL := 2) (ret := (some .int)) (by decide) rfl (Nat.le_of_ble_eq_true rfl) ?_
  intro p e s m below meth c A hx hb hml hown hts hlocks hex hA hK hP hD hX hS ls hl
  have hl : lv_has ls 2 [(0, .ref x0), (1, .int x)] := hl
  refine lv_iload_n hx hb dLed_open_0 rfl (lv_at hl 1 rfl) ?_
  refine lv_if_ge (tgt := 14) hx hb dLed_open_1 (by decide) (fun c1 => ?_) (fun c1 => ?_)
  · exact absurd hxa (Int32.not_lt.mpr c1)
  · exact x_throw hl0 hx hb hml hown hts hX (by decide) gw270 gw47 (List.mem_of_getElem? (i := 0) rfl) x_thIAE hP hS hl.1 dLed_open_4 dLed_open_7 dLed_open_8 dLed_open_10 dLed_open_13 hex hlocks [0] rfl (Nat.le_of_ble_eq_true rfl) (Nat.le_of_ble_eq_true rfl) (Nat.le_of_ble_eq_true rfl) (Nat.le_of_ble_eq_true rfl) (Nat.le_of_ble_eq_true rfl) (Nat.le_of_ble_eq_true rfl)

set_option maxHeartbeats 4000000 in
set_option maxRecDepth 100000 in
theorem kT_code1 (l : Launch) (hl0 : l.stackTraces = false) (dC : Nat → ClassId) (dI : Nat → Nat → Nat) (kI kJ kZ : ClassId) (x0 : Nat) (qc : Nat) (qb : Nat) (qs : Nat) (qk : Nat) (r0 : Nat) (lu : Int32) (lr : Int32) (qb1 : Nat) (nA : Nat) (x : Int32) (w : Int32) (hnA : nA ≤ 24) (hxa : xHas nA x = false) :
    XT stY l yLed_code wLed_code { frames := 7, cells := 1, slots := 6, locals := 111 } (dC, dI) xCl (x_T kI kJ kZ) [(x0, .inr (5, [.ref qc, .ref qb, .ref qs, .ref qk, .ref r0, .int lu, .int lr])), (qb, .inr (0, [.ref qb1, .int (nI nA)]))] [.ref x0, .int x, .int w] 1 6 nIOB := by
  refine XT.of (cc := cLed_code) (maxL := 3) (ret := (some .int)) (by decide) rfl (Nat.le_of_ble_eq_true rfl) ?_
  intro p e s m below meth c A hx hb hml hown hts hlocks hex hA hK hP hD hX hS ls hl
  have hl : lv_has ls 3 [(0, .ref x0), (1, .int x), (2, .int w)] := hl
  refine lv_aload_n hx hb dLed_code_0 rfl (lv_at hl 0 rfl) ?_
  refine lv_iload_n hx hb dLed_code_1 rfl (lv_at hl 1 rfl) ?_
  exact XT.outV (As := [.int x]) (rest := []) stY_ok ⟨hx, hb, hml, hown, hts⟩ (kT_reqA l hl0 dC dI kI kJ kZ x0 qc qb qs qk r0 lu lr qb1 nA x (by first | assumption | omega) (by first | assumption | omega)) (cwV 1 hts (x_gV gw353 gw355 gw1 gw36 gw356) rfl rfl rfl (by decide +kernel) ⟨Nat.le_of_ble_eq_true rfl, Nat.le_of_ble_eq_true rfl⟩) hK hP hD hS hA hX [0, 1] rfl (by decide) rfl rfl rfl rfl hl.1 (Nat.le_of_ble_eq_true rfl) dLed_code_2 ⟨Nat.le_of_ble_eq_true rfl, Nat.le_of_ble_eq_true rfl⟩ hex hlocks [0, 1] rfl (Nat.le_of_ble_eq_true rfl) (Nat.le_of_ble_eq_true rfl)

set_option maxHeartbeats 4000000 in
set_option maxRecDepth 100000 in
theorem kT_code2 (l : Launch) (hl0 : l.stackTraces = false) (dC : Nat → ClassId) (dI : Nat → Nat → Nat) (kI kJ kZ : ClassId) (x0 : Nat) (qc : Nat) (qb : Nat) (qs : Nat) (qk : Nat) (r0 : Nat) (lu : Int32) (lr : Int32) (qb1 : Nat) (nA : Nat) (qc1 : Nat) (qc2 : Nat) (qc3 : Nat) (cw : Nat → Int32) (lc : Nat → Nat) (z : Nat → Bool) (a : Nat) (w : Int32) (hnA : nA ≤ 24) (ha : a < nA) (hz : z a = true) :
    XT stY l yLed_code wLed_code { frames := 7, cells := 1, slots := 6, locals := 111 } (dC, dI) xCl (x_T kI kJ kZ) [(x0, .inr (5, [.ref qc, .ref qb, .ref qs, .ref qk, .ref r0, .int lu, .int lr])), (qb, .inr (0, [.ref qb1, .int (nI nA)])), (qc, .inr (1, [.ref qc1, .ref qc2, .ref qc3])), (qc1, .inl (kI, 3840, .inl cw)), (qc2, .inl (kI, 24, .inl (fun j => nI (lc j)))), (qc3, .inl (kZ, 24, .inl (fun j => x_b (z j))))] [.ref x0, .int (nI a), .int w] 1 6 nISE := by
  refine XT.of (cc := cLed_code) (maxL := 3) (ret := (some .int)) (by decide) rfl (Nat.le_of_ble_eq_true rfl) ?_
  intro p e s m below meth c A hx hb hml hown hts hlocks hex hA hK hP hD hX hS ls hl
  have hl : lv_has ls 3 [(0, .ref x0), (1, .int (nI a)), (2, .int w)] := hl
  refine lv_aload_n hx hb dLed_code_0 rfl (lv_at hl 0 rfl) ?_
  refine lv_iload_n hx hb dLed_code_1 rfl (lv_at hl 1 rfl) ?_
  refine XM.callVv (As := [.int (nI a)]) (rest := []) (wr := [(qc, .inr (1, [.ref qc1, .ref qc2, .ref qc3])), (qc1, .inl (kI, 3840, .inl cw)), (qc2, .inl (kI, 24, .inl (fun j => nI (lc j)))), (qc3, .inl (kZ, 24, .inl (fun j => x_b (z j))))]) stX_ok ⟨hx, hb, hml, hown, hts⟩ (kLed_reqA l dC dI kI kJ kZ x0 qc qb qs qk r0 lu lr qb1 nA (nI a) (by first | assumption | omega) (xHas_nI ha (by omega))) (cwV 1 hts (x_gV gw353 gw355 gw1 gw36 gw356) rfl rfl rfl (by decide +kernel) ⟨Nat.le_of_ble_eq_true rfl, Nat.le_of_ble_eq_true rfl⟩) hK hP hD hS hA hX.1 [0, 1] [2, 3, 4, 5] rfl rfl (by decide) (by decide) (by decide) rfl rfl rfl rfl hl.1 (Nat.le_of_ble_eq_true rfl) dLed_code_2 ⟨Nat.le_of_ble_eq_true rfl, Nat.le_of_ble_eq_true rfl⟩ (fun u_1 H locs hw hP hD hS => ?_)
  have hP : va_P (dC, dI) xCl [(qc, .inr (1, [.ref qc1, .ref qc2, .ref qc3])), (qc1, .inl (kI, 3840, .inl cw)), (qc2, .inl (kI, 24, .inl (fun j => nI (lc j)))), (qc3, .inl (kZ, 24, .inl (fun j => x_b (z j)))), (x0, .inr (5, [.ref qc, .ref qb, .ref qs, .ref qk, .ref r0, .int lu, .int lr])), (qb, .inr (0, [.ref qb1, .int (nI nA)]))] H := hP
  have hD : va_D A [(qc, .inr (1, [.ref qc1, .ref qc2, .ref qc3])), (qc1, .inl (kI, 3840, .inl cw)), (qc2, .inl (kI, 24, .inl (fun j => nI (lc j)))), (qc3, .inl (kZ, 24, .inl (fun j => x_b (z j)))), (x0, .inr (5, [.ref qc, .ref qb, .ref qs, .ref qk, .ref r0, .int lu, .int lr])), (qb, .inr (0, [.ref qb1, .int (nI nA)]))] := hD
  refine lv_aload_n hx hb dLed_code_5 rfl (lv_at hl 0 rfl) ?_
  refine lv_iload_n hx hb dLed_code_6 rfl (lv_at hl 1 rfl) ?_
  exact XT.outV (As := [.int (nI a)]) (rest := []) stY_ok ⟨hx, hb, hml, hown, hts⟩ (kT_reqU l hl0 dC dI kI kJ kZ x0 qc qb qs qk r0 lu lr qc1 qc2 qc3 cw lc z a (by first | assumption | omega) (by first | assumption | omega)) (cwV 1 hts (x_gV gw377 gw379 gw2 gw36 gw380) rfl rfl rfl (by decide +kernel) ⟨Nat.le_of_ble_eq_true rfl, Nat.le_of_ble_eq_true rfl⟩) hK hP hD hS hA hX [4, 0, 1, 2, 3] rfl (by decide) rfl rfl rfl rfl hl.1 (Nat.le_of_ble_eq_true rfl) dLed_code_7 ⟨Nat.le_of_ble_eq_true rfl, Nat.le_of_ble_eq_true rfl⟩ hex hlocks [4, 5, 0, 1, 2, 3] rfl (Nat.le_of_ble_eq_true rfl) (Nat.le_of_ble_eq_true rfl)

set_option maxHeartbeats 4000000 in
set_option maxRecDepth 100000 in
theorem kT_seal1 (l : Launch) (hl0 : l.stackTraces = false) (dC : Nat → ClassId) (dI : Nat → Nat → Nat) (kI kJ kZ : ClassId) (x0 : Nat) (qc : Nat) (qb : Nat) (qs : Nat) (qk : Nat) (r0 : Nat) (lu : Int32) (lr : Int32) (qb1 : Nat) (nA : Nat) (x : Int32) (hnA : nA ≤ 24) (hxa : xHas nA x = false) :
    XT stY l yLed_seal wLed_seal { frames := 7, cells := 1, slots := 6, locals := 111 } (dC, dI) xCl (x_T kI kJ kZ) [(x0, .inr (5, [.ref qc, .ref qb, .ref qs, .ref qk, .ref r0, .int lu, .int lr])), (qb, .inr (0, [.ref qb1, .int (nI nA)]))] [.ref x0, .int x] 1 6 nIOB := by
  refine XT.of (cc := cLed_seal) (maxL := 2) (ret := (some .int)) (by decide) rfl (Nat.le_of_ble_eq_true rfl) ?_
  intro p e s m below meth c A hx hb hml hown hts hlocks hex hA hK hP hD hX hS ls hl
  have hl : lv_has ls 2 [(0, .ref x0), (1, .int x)] := hl
  refine lv_aload_n hx hb dLed_seal_0 rfl (lv_at hl 0 rfl) ?_
  refine lv_iload_n hx hb dLed_seal_1 rfl (lv_at hl 1 rfl) ?_
  exact XT.outV (As := [.int x]) (rest := []) stY_ok ⟨hx, hb, hml, hown, hts⟩ (kT_reqA l hl0 dC dI kI kJ kZ x0 qc qb qs qk r0 lu lr qb1 nA x (by first | assumption | omega) (by first | assumption | omega)) (cwV 1 hts (x_gV gw353 gw355 gw1 gw36 gw356) rfl rfl rfl (by decide +kernel) ⟨Nat.le_of_ble_eq_true rfl, Nat.le_of_ble_eq_true rfl⟩) hK hP hD hS hA hX [0, 1] rfl (by decide) rfl rfl rfl rfl hl.1 (Nat.le_of_ble_eq_true rfl) dLed_seal_2 ⟨Nat.le_of_ble_eq_true rfl, Nat.le_of_ble_eq_true rfl⟩ hex hlocks [0, 1] rfl (Nat.le_of_ble_eq_true rfl) (Nat.le_of_ble_eq_true rfl)

set_option maxHeartbeats 4000000 in
set_option maxRecDepth 100000 in
theorem kT_seal2 (l : Launch) (hl0 : l.stackTraces = false) (dC : Nat → ClassId) (dI : Nat → Nat → Nat) (kI kJ kZ : ClassId) (x0 : Nat) (qc : Nat) (qb : Nat) (qs : Nat) (qk : Nat) (r0 : Nat) (lu : Int32) (lr : Int32) (qb1 : Nat) (nA : Nat) (qc1 : Nat) (qc2 : Nat) (qc3 : Nat) (cw : Nat → Int32) (lc : Nat → Nat) (z : Nat → Bool) (a : Nat) (hnA : nA ≤ 24) (ha : a < nA) (hz : z a = true) :
    XT stY l yLed_seal wLed_seal { frames := 7, cells := 1, slots := 6, locals := 111 } (dC, dI) xCl (x_T kI kJ kZ) [(x0, .inr (5, [.ref qc, .ref qb, .ref qs, .ref qk, .ref r0, .int lu, .int lr])), (qb, .inr (0, [.ref qb1, .int (nI nA)])), (qc, .inr (1, [.ref qc1, .ref qc2, .ref qc3])), (qc1, .inl (kI, 3840, .inl cw)), (qc2, .inl (kI, 24, .inl (fun j => nI (lc j)))), (qc3, .inl (kZ, 24, .inl (fun j => x_b (z j))))] [.ref x0, .int (nI a)] 1 6 nISE := by
  refine XT.of (cc := cLed_seal) (maxL := 2) (ret := (some .int)) (by decide) rfl (Nat.le_of_ble_eq_true rfl) ?_
  intro p e s m below meth c A hx hb hml hown hts hlocks hex hA hK hP hD hX hS ls hl
  have hl : lv_has ls 2 [(0, .ref x0), (1, .int (nI a))] := hl
  refine lv_aload_n hx hb dLed_seal_0 rfl (lv_at hl 0 rfl) ?_
  refine lv_iload_n hx hb dLed_seal_1 rfl (lv_at hl 1 rfl) ?_
  refine XM.callVv (As := [.int (nI a)]) (rest := []) (wr := [(qc, .inr (1, [.ref qc1, .ref qc2, .ref qc3])), (qc1, .inl (kI, 3840, .inl cw)), (qc2, .inl (kI, 24, .inl (fun j => nI (lc j)))), (qc3, .inl (kZ, 24, .inl (fun j => x_b (z j))))]) stX_ok ⟨hx, hb, hml, hown, hts⟩ (kLed_reqA l dC dI kI kJ kZ x0 qc qb qs qk r0 lu lr qb1 nA (nI a) (by first | assumption | omega) (xHas_nI ha (by omega))) (cwV 1 hts (x_gV gw353 gw355 gw1 gw36 gw356) rfl rfl rfl (by decide +kernel) ⟨Nat.le_of_ble_eq_true rfl, Nat.le_of_ble_eq_true rfl⟩) hK hP hD hS hA hX.1 [0, 1] [2, 3, 4, 5] rfl rfl (by decide) (by decide) (by decide) rfl rfl rfl rfl hl.1 (Nat.le_of_ble_eq_true rfl) dLed_seal_2 ⟨Nat.le_of_ble_eq_true rfl, Nat.le_of_ble_eq_true rfl⟩ (fun u_1 H locs hw hP hD hS => ?_)
  have hP : va_P (dC, dI) xCl [(qc, .inr (1, [.ref qc1, .ref qc2, .ref qc3])), (qc1, .inl (kI, 3840, .inl cw)), (qc2, .inl (kI, 24, .inl (fun j => nI (lc j)))), (qc3, .inl (kZ, 24, .inl (fun j => x_b (z j)))), (x0, .inr (5, [.ref qc, .ref qb, .ref qs, .ref qk, .ref r0, .int lu, .int lr])), (qb, .inr (0, [.ref qb1, .int (nI nA)]))] H := hP
  have hD : va_D A [(qc, .inr (1, [.ref qc1, .ref qc2, .ref qc3])), (qc1, .inl (kI, 3840, .inl cw)), (qc2, .inl (kI, 24, .inl (fun j => nI (lc j)))), (qc3, .inl (kZ, 24, .inl (fun j => x_b (z j)))), (x0, .inr (5, [.ref qc, .ref qb, .ref qs, .ref qk, .ref r0, .int lu, .int lr])), (qb, .inr (0, [.ref qb1, .int (nI nA)]))] := hD
  refine lv_aload_n hx hb dLed_seal_5 rfl (lv_at hl 0 rfl) ?_
  refine lv_iload_n hx hb dLed_seal_6 rfl (lv_at hl 1 rfl) ?_
  exact XT.outV (As := [.int (nI a)]) (rest := []) stY_ok ⟨hx, hb, hml, hown, hts⟩ (kT_reqU l hl0 dC dI kI kJ kZ x0 qc qb qs qk r0 lu lr qc1 qc2 qc3 cw lc z a (by first | assumption | omega) (by first | assumption | omega)) (cwV 1 hts (x_gV gw377 gw379 gw2 gw36 gw380) rfl rfl rfl (by decide +kernel) ⟨Nat.le_of_ble_eq_true rfl, Nat.le_of_ble_eq_true rfl⟩) hK hP hD hS hA hX [4, 0, 1, 2, 3] rfl (by decide) rfl rfl rfl rfl hl.1 (Nat.le_of_ble_eq_true rfl) dLed_seal_7 ⟨Nat.le_of_ble_eq_true rfl, Nat.le_of_ble_eq_true rfl⟩ hex hlocks [4, 5, 0, 1, 2, 3] rfl (Nat.le_of_ble_eq_true rfl) (Nat.le_of_ble_eq_true rfl)

set_option maxHeartbeats 4000000 in
set_option maxRecDepth 100000 in
theorem kT_balance (l : Launch) (hl0 : l.stackTraces = false) (dC : Nat → ClassId) (dI : Nat → Nat → Nat) (kI kJ kZ : ClassId) (x0 : Nat) (qc : Nat) (qb : Nat) (qs : Nat) (qk : Nat) (r0 : Nat) (lu : Int32) (lr : Int32) (qb1 : Nat) (nA : Nat) (x : Int32) (hnA : nA ≤ 24) (hxa : xHas nA x = false) :
    XT stY l yLed_balance wLed_balance { frames := 7, cells := 1, slots := 6, locals := 111 } (dC, dI) xCl (x_T kI kJ kZ) [(x0, .inr (5, [.ref qc, .ref qb, .ref qs, .ref qk, .ref r0, .int lu, .int lr])), (qb, .inr (0, [.ref qb1, .int (nI nA)]))] [.ref x0, .int x] 1 6 nIOB := by
  refine XT.of (cc := cLed_balance) (maxL := 2) (ret := (some .int)) (by decide) rfl (Nat.le_of_ble_eq_true rfl) ?_
  intro p e s m below meth c A hx hb hml hown hts hlocks hex hA hK hP hD hX hS ls hl
  have hl : lv_has ls 2 [(0, .ref x0), (1, .int x)] := hl
  refine lv_aload_n hx hb dLed_balance_0 rfl (lv_at hl 0 rfl) ?_
  refine lv_iload_n hx hb dLed_balance_1 rfl (lv_at hl 1 rfl) ?_
  exact XT.outV (As := [.int x]) (rest := []) stY_ok ⟨hx, hb, hml, hown, hts⟩ (kT_reqA l hl0 dC dI kI kJ kZ x0 qc qb qs qk r0 lu lr qb1 nA x (by first | assumption | omega) (by first | assumption | omega)) (cwV 1 hts (x_gV gw353 gw355 gw1 gw36 gw356) rfl rfl rfl (by decide +kernel) ⟨Nat.le_of_ble_eq_true rfl, Nat.le_of_ble_eq_true rfl⟩) hK hP hD hS hA hX [0, 1] rfl (by decide) rfl rfl rfl rfl hl.1 (Nat.le_of_ble_eq_true rfl) dLed_balance_2 ⟨Nat.le_of_ble_eq_true rfl, Nat.le_of_ble_eq_true rfl⟩ hex hlocks [0, 1] rfl (Nat.le_of_ble_eq_true rfl) (Nat.le_of_ble_eq_true rfl)

set_option maxHeartbeats 4000000 in
set_option maxRecDepth 100000 in
theorem kT_storage (l : Launch) (hl0 : l.stackTraces = false) (dC : Nat → ClassId) (dI : Nat → Nat → Nat) (kI kJ kZ : ClassId) (x0 : Nat) (qc : Nat) (qb : Nat) (qs : Nat) (qk : Nat) (r0 : Nat) (lu : Int32) (lr : Int32) (qb1 : Nat) (nA : Nat) (x : Int32) (k : Int32) (hnA : nA ≤ 24) (hxa : xHas nA x = false) :
    XT stY l yLed_storage wLed_storage { frames := 7, cells := 1, slots := 6, locals := 111 } (dC, dI) xCl (x_T kI kJ kZ) [(x0, .inr (5, [.ref qc, .ref qb, .ref qs, .ref qk, .ref r0, .int lu, .int lr])), (qb, .inr (0, [.ref qb1, .int (nI nA)]))] [.ref x0, .int x, .int k] 1 6 nIOB := by
  refine XT.of (cc := cLed_storage) (maxL := 3) (ret := (some .int)) (by decide) rfl (Nat.le_of_ble_eq_true rfl) ?_
  intro p e s m below meth c A hx hb hml hown hts hlocks hex hA hK hP hD hX hS ls hl
  have hl : lv_has ls 3 [(0, .ref x0), (1, .int x), (2, .int k)] := hl
  refine lv_aload_n hx hb dLed_storage_0 rfl (lv_at hl 0 rfl) ?_
  refine lv_iload_n hx hb dLed_storage_1 rfl (lv_at hl 1 rfl) ?_
  exact XT.outV (As := [.int x]) (rest := []) stY_ok ⟨hx, hb, hml, hown, hts⟩ (kT_reqA l hl0 dC dI kI kJ kZ x0 qc qb qs qk r0 lu lr qb1 nA x (by first | assumption | omega) (by first | assumption | omega)) (cwV 1 hts (x_gV gw353 gw355 gw1 gw36 gw356) rfl rfl rfl (by decide +kernel) ⟨Nat.le_of_ble_eq_true rfl, Nat.le_of_ble_eq_true rfl⟩) hK hP hD hS hA hX [0, 1] rfl (by decide) rfl rfl rfl rfl hl.1 (Nat.le_of_ble_eq_true rfl) dLed_storage_2 ⟨Nat.le_of_ble_eq_true rfl, Nat.le_of_ble_eq_true rfl⟩ hex hlocks [0, 1] rfl (Nat.le_of_ble_eq_true rfl) (Nat.le_of_ble_eq_true rfl)

set_option maxHeartbeats 4000000 in
set_option maxRecDepth 100000 in
theorem kT_log (l : Launch) (hl0 : l.stackTraces = false) (dC : Nat → ClassId) (dI : Nat → Nat → Nat) (kI kJ kZ : ClassId) (x0 : Nat) (qc : Nat) (qb : Nat) (qs : Nat) (qk : Nat) (r0 : Nat) (lu : Int32) (lr : Int32) (qk1 : Nat) (ln : Nat) (x : Int32) (hln : ln ≤ 300) (hxa : xHas ln x = false) :
    XT stY l yLed_log wLed_log { frames := 6, cells := 1, slots := 6, locals := 90 } (dC, dI) xCl (x_T kI kJ kZ) [(x0, .inr (5, [.ref qc, .ref qb, .ref qs, .ref qk, .ref r0, .int lu, .int lr])), (qk, .inr (2, [.ref qk1, .int (nI ln)]))] [.ref x0, .int x] 1 6 nIOB := by
  refine XT.of (cc := cLed_log) (maxL := 2) (ret := (some .int)) (by decide) rfl (Nat.le_of_ble_eq_true rfl) ?_
  intro p e s m below meth c A hx hb hml hown hts hlocks hex hA hK hP hD hX hS ls hl
  have hl : lv_has ls 2 [(0, .ref x0), (1, .int x)] := hl
  refine lv_iload_n hx hb dLed_log_0 rfl (lv_at hl 1 rfl) ?_
  refine lv_if_lt (tgt := 15) hx hb dLed_log_1 (by decide) (fun c1 => ?_) (fun c1 => ?_)
  · exact x_throw hl0 hx hb hml hown hts hX (by decide) gw361 gw48 (List.mem_of_getElem? (i := 5) rfl) x_thIOB hP hS hl.1 dLed_log_15 dLed_log_18 dLed_log_19 dLed_log_21 dLed_log_24 hex hlocks [0, 1] rfl (Nat.le_of_ble_eq_true rfl) (Nat.le_of_ble_eq_true rfl) (Nat.le_of_ble_eq_true rfl) (Nat.le_of_ble_eq_true rfl) (Nat.le_of_ble_eq_true rfl) (Nat.le_of_ble_eq_true rfl)
  · refine lv_iload_n hx hb dLed_log_4 rfl (lv_at hl 1 rfl) ?_
    refine lv_aload_n hx hb dLed_log_5 rfl (lv_at hl 0 rfl) ?_
    refine va_get (D := (dC, dI)) (ci := 5) (v := .ref qk) (C := RLed) (T := TLed) (N := 7) hx hb hts (fun w h => List.mem_cons_of_mem _ (layLed w h)) hown hK hP 0 rfl rfl 3 (by decide) (hts (.fieldLink RLed 35 "CallLedger" "kept" "LCallLedger$Row;") (List.mem_cons_of_mem _ gw199)) (fun _ h9 => h9) rfl dLed_log_6 ?_
    refine XM.callVi (As := []) (rest := [.int x]) (wr := [(x0, .inr (5, [.ref qc, .ref qb, .ref qs, .ref qk, .ref r0, .int lu, .int lr]))]) stX_ok ⟨hx, hb, hml, hown, hts⟩ (kRow_size l dC dI kI kJ kZ qk qk1 ln ) (cwV 0 hts (x_gV gw230 gw231 gw232 gw40 gw233) rfl rfl rfl (by decide +kernel) ⟨Nat.le_of_ble_eq_true rfl, Nat.le_of_ble_eq_true rfl⟩) hK hP hD hS hA hX.1 [1] [0] rfl rfl (by decide) (by decide) (by decide) rfl rfl rfl rfl hl.1 (Nat.le_of_ble_eq_true rfl) dLed_log_9 ⟨Nat.le_of_ble_eq_true rfl, Nat.le_of_ble_eq_true rfl⟩ (fun r_2 u_1 H locs hw hP hD hS => ?_)
    obtain rfl := hw
    have hP : va_P (dC, dI) xCl [(x0, .inr (5, [.ref qc, .ref qb, .ref qs, .ref qk, .ref r0, .int lu, .int lr])), (qk, .inr (2, [.ref qk1, .int (nI ln)]))] H := hP
    have hD : va_D A [(x0, .inr (5, [.ref qc, .ref qb, .ref qs, .ref qk, .ref r0, .int lu, .int lr])), (qk, .inr (2, [.ref qk1, .int (nI ln)]))] := hD
    refine lv_icmp_lt (tgt := 25) hx hb dLed_log_12 (by decide) (fun c12 => ?_) (fun c12 => ?_)
    · exact absurd (xHas_t c1 (Int32.not_le.mpr c12)) (by rw [hxa]; decide)
    · exact x_throw hl0 hx hb hml hown hts hX (by decide) gw361 gw48 (List.mem_of_getElem? (i := 5) rfl) x_thIOB hP hS hl.1 dLed_log_15 dLed_log_18 dLed_log_19 dLed_log_21 dLed_log_24 hex hlocks [0, 1] rfl (Nat.le_of_ble_eq_true rfl) (Nat.le_of_ble_eq_true rfl) (Nat.le_of_ble_eq_true rfl) (Nat.le_of_ble_eq_true rfl) (Nat.le_of_ble_eq_true rfl) (Nat.le_of_ble_eq_true rfl)

set_option maxHeartbeats 4000000 in
set_option maxRecDepth 100000 in
theorem kT_trans1 (l : Launch) (hl0 : l.stackTraces = false) (dC : Nat → ClassId) (dI : Nat → Nat → Nat) (kI kJ kZ : ClassId) (x0 : Nat) (qc : Nat) (qb : Nat) (qs : Nat) (qk : Nat) (r0 : Nat) (lu : Int32) (lr : Int32) (qb1 : Nat) (nA : Nat) (x : Int32) (y : Int32) (v : Int32) (g : Int32) (hnA : nA ≤ 24) (hxa : xHas nA x = false) :
    XT stY l yLed_transact wLed_transact { frames := 7, cells := 1, slots := 6, locals := 111 } (dC, dI) xCl (x_T kI kJ kZ) [(x0, .inr (5, [.ref qc, .ref qb, .ref qs, .ref qk, .ref r0, .int lu, .int lr])), (qb, .inr (0, [.ref qb1, .int (nI nA)]))] [.ref x0, .int x, .int y, .int v, .int g] 1 6 nIOB := by
  refine XT.of (cc := cLed_transact) (maxL := 5) (ret := (some .int)) (by decide) rfl (Nat.le_of_ble_eq_true rfl) ?_
  intro p e s m below meth c A hx hb hml hown hts hlocks hex hA hK hP hD hX hS ls hl
  have hl : lv_has ls 5 [(0, .ref x0), (1, .int x), (2, .int y), (3, .int v), (4, .int g)] := hl
  refine lv_aload_n hx hb dLed_transact_0 rfl (lv_at hl 0 rfl) ?_
  refine lv_iload_n hx hb dLed_transact_1 rfl (lv_at hl 1 rfl) ?_
  exact XT.outV (As := [.int x]) (rest := []) stY_ok ⟨hx, hb, hml, hown, hts⟩ (kT_reqA l hl0 dC dI kI kJ kZ x0 qc qb qs qk r0 lu lr qb1 nA x (by first | assumption | omega) (by first | assumption | omega)) (cwV 1 hts (x_gV gw353 gw355 gw1 gw36 gw356) rfl rfl rfl (by decide +kernel) ⟨Nat.le_of_ble_eq_true rfl, Nat.le_of_ble_eq_true rfl⟩) hK hP hD hS hA hX [0, 1] rfl (by decide) rfl rfl rfl rfl hl.1 (Nat.le_of_ble_eq_true rfl) dLed_transact_2 ⟨Nat.le_of_ble_eq_true rfl, Nat.le_of_ble_eq_true rfl⟩ hex hlocks [0, 1] rfl (Nat.le_of_ble_eq_true rfl) (Nat.le_of_ble_eq_true rfl)

set_option maxHeartbeats 4000000 in
set_option maxRecDepth 100000 in
theorem kT_trans2 (l : Launch) (hl0 : l.stackTraces = false) (dC : Nat → ClassId) (dI : Nat → Nat → Nat) (kI kJ kZ : ClassId) (x0 : Nat) (qc : Nat) (qb : Nat) (qs : Nat) (qk : Nat) (r0 : Nat) (lu : Int32) (lr : Int32) (qb1 : Nat) (nA : Nat) (a : Nat) (y : Int32) (v : Int32) (g : Int32) (hnA : nA ≤ 24) (ha : a < nA) (hxb : xHas nA y = false) :
    XT stY l yLed_transact wLed_transact { frames := 7, cells := 1, slots := 6, locals := 111 } (dC, dI) xCl (x_T kI kJ kZ) [(x0, .inr (5, [.ref qc, .ref qb, .ref qs, .ref qk, .ref r0, .int lu, .int lr])), (qb, .inr (0, [.ref qb1, .int (nI nA)]))] [.ref x0, .int (nI a), .int y, .int v, .int g] 1 6 nIOB := by
  refine XT.of (cc := cLed_transact) (maxL := 5) (ret := (some .int)) (by decide) rfl (Nat.le_of_ble_eq_true rfl) ?_
  intro p e s m below meth c A hx hb hml hown hts hlocks hex hA hK hP hD hX hS ls hl
  have hl : lv_has ls 5 [(0, .ref x0), (1, .int (nI a)), (2, .int y), (3, .int v), (4, .int g)] := hl
  refine lv_aload_n hx hb dLed_transact_0 rfl (lv_at hl 0 rfl) ?_
  refine lv_iload_n hx hb dLed_transact_1 rfl (lv_at hl 1 rfl) ?_
  refine XM.callVv (As := [.int (nI a)]) (rest := []) (wr := []) stX_ok ⟨hx, hb, hml, hown, hts⟩ (kLed_reqA l dC dI kI kJ kZ x0 qc qb qs qk r0 lu lr qb1 nA (nI a) (by first | assumption | omega) (xHas_nI ha (by omega))) (cwV 1 hts (x_gV gw353 gw355 gw1 gw36 gw356) rfl rfl rfl (by decide +kernel) ⟨Nat.le_of_ble_eq_true rfl, Nat.le_of_ble_eq_true rfl⟩) hK hP hD hS hA hX.1 [0, 1] [] rfl rfl (by decide) (by decide) (by decide) rfl rfl rfl rfl hl.1 (Nat.le_of_ble_eq_true rfl) dLed_transact_2 ⟨Nat.le_of_ble_eq_true rfl, Nat.le_of_ble_eq_true rfl⟩ (fun u_1 H locs hw hP hD hS => ?_)
  have hP : va_P (dC, dI) xCl [(x0, .inr (5, [.ref qc, .ref qb, .ref qs, .ref qk, .ref r0, .int lu, .int lr])), (qb, .inr (0, [.ref qb1, .int (nI nA)]))] H := hP
  have hD : va_D A [(x0, .inr (5, [.ref qc, .ref qb, .ref qs, .ref qk, .ref r0, .int lu, .int lr])), (qb, .inr (0, [.ref qb1, .int (nI nA)]))] := hD
  refine lv_aload_n hx hb dLed_transact_5 rfl (lv_at hl 0 rfl) ?_
  refine lv_iload_n hx hb dLed_transact_6 rfl (lv_at hl 2 rfl) ?_
  exact XT.outV (As := [.int y]) (rest := []) stY_ok ⟨hx, hb, hml, hown, hts⟩ (kT_reqA l hl0 dC dI kI kJ kZ x0 qc qb qs qk r0 lu lr qb1 nA y (by first | assumption | omega) (by first | assumption | omega)) (cwV 1 hts (x_gV gw353 gw355 gw1 gw36 gw356) rfl rfl rfl (by decide +kernel) ⟨Nat.le_of_ble_eq_true rfl, Nat.le_of_ble_eq_true rfl⟩) hK hP hD hS hA hX [0, 1] rfl (by decide) rfl rfl rfl rfl hl.1 (Nat.le_of_ble_eq_true rfl) dLed_transact_7 ⟨Nat.le_of_ble_eq_true rfl, Nat.le_of_ble_eq_true rfl⟩ hex hlocks [0, 1] rfl (Nat.le_of_ble_eq_true rfl) (Nat.le_of_ble_eq_true rfl)

set_option maxHeartbeats 4000000 in
set_option maxRecDepth 100000 in
theorem kT_trans3 (l : Launch) (hl0 : l.stackTraces = false) (dC : Nat → ClassId) (dI : Nat → Nat → Nat) (kI kJ kZ : ClassId) (x0 : Nat) (qc : Nat) (qb : Nat) (qs : Nat) (qk : Nat) (r0 : Nat) (lu : Int32) (lr : Int32) (qb1 : Nat) (nA : Nat) (bal : Nat → Int32) (a : Nat) (y : Int32) (v : Int32) (g : Int32) (hnA : nA ≤ 24) (ha : a < nA) (hxb : xHas nA y = true) (hcn : v < 0 ∨ bal a < v) :
    XT stY l yLed_transact wLed_transact { frames := 6, cells := 1, slots := 6, locals := 90 } (dC, dI) xCl (x_T kI kJ kZ) [(x0, .inr (5, [.ref qc, .ref qb, .ref qs, .ref qk, .ref r0, .int lu, .int lr])), (qb, .inr (0, [.ref qb1, .int (nI nA)])), (qb1, .inl (kI, 24, .inl bal))] [.ref x0, .int (nI a), .int y, .int v, .int g] 1 6 nIAE := by
  refine XT.of (cc := cLed_transact) (maxL := 5) (ret := (some .int)) (by decide) rfl (Nat.le_of_ble_eq_true rfl) ?_
  intro p e s m below meth c A hx hb hml hown hts hlocks hex hA hK hP hD hX hS ls hl
  have hl : lv_has ls 5 [(0, .ref x0), (1, .int (nI a)), (2, .int y), (3, .int v), (4, .int g)] := hl
  refine lv_aload_n hx hb dLed_transact_0 rfl (lv_at hl 0 rfl) ?_
  refine lv_iload_n hx hb dLed_transact_1 rfl (lv_at hl 1 rfl) ?_
  refine XM.callVv (As := [.int (nI a)]) (rest := []) (wr := [(qb1, .inl (kI, 24, .inl bal))]) stX_ok ⟨hx, hb, hml, hown, hts⟩ (kLed_reqA l dC dI kI kJ kZ x0 qc qb qs qk r0 lu lr qb1 nA (nI a) (by first | assumption | omega) (xHas_nI ha (by omega))) (cwV 1 hts (x_gV gw353 gw355 gw1 gw36 gw356) rfl rfl rfl (by decide +kernel) ⟨Nat.le_of_ble_eq_true rfl, Nat.le_of_ble_eq_true rfl⟩) hK hP hD hS hA hX.1 [0, 1] [2] rfl rfl (by decide) (by decide) (by decide) rfl rfl rfl rfl hl.1 (Nat.le_of_ble_eq_true rfl) dLed_transact_2 ⟨Nat.le_of_ble_eq_true rfl, Nat.le_of_ble_eq_true rfl⟩ (fun u_1 H locs hw hP hD hS => ?_)
  have hP : va_P (dC, dI) xCl [(qb1, .inl (kI, 24, .inl bal)), (x0, .inr (5, [.ref qc, .ref qb, .ref qs, .ref qk, .ref r0, .int lu, .int lr])), (qb, .inr (0, [.ref qb1, .int (nI nA)]))] H := hP
  have hD : va_D A [(qb1, .inl (kI, 24, .inl bal)), (x0, .inr (5, [.ref qc, .ref qb, .ref qs, .ref qk, .ref r0, .int lu, .int lr])), (qb, .inr (0, [.ref qb1, .int (nI nA)]))] := hD
  refine lv_aload_n hx hb dLed_transact_5 rfl (lv_at hl 0 rfl) ?_
  refine lv_iload_n hx hb dLed_transact_6 rfl (lv_at hl 2 rfl) ?_
  refine XM.callVv (As := [.int y]) (rest := []) (wr := [(qb1, .inl (kI, 24, .inl bal))]) stX_ok ⟨hx, hb, hml, hown, hts⟩ (kLed_reqA l dC dI kI kJ kZ x0 qc qb qs qk r0 lu lr qb1 nA y (by first | assumption | omega) (hxb)) (cwV 1 hts (x_gV gw353 gw355 gw1 gw36 gw356) rfl rfl rfl (by decide +kernel) ⟨Nat.le_of_ble_eq_true rfl, Nat.le_of_ble_eq_true rfl⟩) hK hP hD hS hA hX.1 [1, 2] [0] rfl rfl (by decide) (by decide) (by decide) rfl rfl rfl rfl hl.1 (Nat.le_of_ble_eq_true rfl) dLed_transact_7 ⟨Nat.le_of_ble_eq_true rfl, Nat.le_of_ble_eq_true rfl⟩ (fun u_3 H locs hw hP hD hS => ?_)
  have hP : va_P (dC, dI) xCl [(qb1, .inl (kI, 24, .inl bal)), (x0, .inr (5, [.ref qc, .ref qb, .ref qs, .ref qk, .ref r0, .int lu, .int lr])), (qb, .inr (0, [.ref qb1, .int (nI nA)]))] H := hP
  have hD : va_D A [(qb1, .inl (kI, 24, .inl bal)), (x0, .inr (5, [.ref qc, .ref qb, .ref qs, .ref qk, .ref r0, .int lu, .int lr])), (qb, .inr (0, [.ref qb1, .int (nI nA)]))] := hD
  refine lv_aload_n hx hb dLed_transact_10 rfl (lv_at hl 0 rfl) ?_
  refine va_get (D := (dC, dI)) (ci := 5) (v := .ref qb) (C := RLed) (T := TLed) (N := 7) hx hb hts (fun w h => List.mem_cons_of_mem _ (layLed w h)) hown hK hP 1 rfl rfl 1 (by decide) (hts (.fieldLink RLed 19 "CallLedger" "balances" "LCallLedger$Balances;") (List.mem_cons_of_mem _ gw197)) (fun _ h9 => h9) rfl dLed_transact_11 ?_
  refine lv_iload_n hx hb dLed_transact_14 rfl (lv_at hl 1 rfl) ?_
  refine lv_iload_n hx hb dLed_transact_15 rfl (lv_at hl 2 rfl) ?_
  refine lv_iload_n hx hb dLed_transact_16 rfl (lv_at hl 3 rfl) ?_
  refine XM.callVi (As := [.int (nI a), .int y, .int v]) (rest := []) (wr := [(x0, .inr (5, [.ref qc, .ref qb, .ref qs, .ref qk, .ref r0, .int lu, .int lr]))]) stX_ok ⟨hx, hb, hml, hown, hts⟩ (kBal_canMove l dC dI kI kJ kZ qb qb1 nA bal a y v (by first | assumption | omega) (by first | assumption | omega)) (cwV 3 hts (x_gV gw441 gw442 gw443 gw38 gw444) rfl rfl rfl (by decide +kernel) ⟨Nat.le_of_ble_eq_true rfl, Nat.le_of_ble_eq_true rfl⟩) hK hP hD hS hA hX.1 [2, 0] [1] rfl rfl (by decide) (by decide) (by decide) rfl rfl rfl rfl hl.1 (Nat.le_of_ble_eq_true rfl) dLed_transact_17 ⟨Nat.le_of_ble_eq_true rfl, Nat.le_of_ble_eq_true rfl⟩ (fun r_6 u_5 H locs hw hP hD hS => ?_)
  obtain rfl := hw
  have hP : va_P (dC, dI) xCl [(x0, .inr (5, [.ref qc, .ref qb, .ref qs, .ref qk, .ref r0, .int lu, .int lr])), (qb, .inr (0, [.ref qb1, .int (nI nA)])), (qb1, .inl (kI, 24, .inl bal))] H := hP
  have hD : va_D A [(x0, .inr (5, [.ref qc, .ref qb, .ref qs, .ref qk, .ref r0, .int lu, .int lr])), (qb, .inr (0, [.ref qb1, .int (nI nA)])), (qb1, .inl (kI, 24, .inl bal))] := hD
  refine lv_if_ne (tgt := 33) hx hb dLed_transact_20 (by decide) (fun c20 => ?_) (fun c20 => ?_)
  · have c20 : ((xHas nA y && !(decide (v < 0)) && !(decide (bal a < v))) = true) := Classical.not_not.mp (fun z9 => c20 (x_i10.mpr z9))
    exfalso; simp only [hxb, Bool.true_and, Bool.and_eq_true, Bool.not_eq_true', decide_eq_false_iff_not] at c20; exact hcn.elim c20.1 c20.2
  · have c20 : (xHas nA y && !(decide (v < 0)) && !(decide (bal a < v))) = false := Bool.eq_false_iff.mpr (x_i10.mp c20)
    exact x_throw hl0 hx hb hml hown hts hX (by decide) gw270 gw47 (List.mem_of_getElem? (i := 3) rfl) x_thIAE hP hS hl.1 dLed_transact_23 dLed_transact_26 dLed_transact_27 dLed_transact_29 dLed_transact_32 hex hlocks [0, 1, 2] rfl (Nat.le_of_ble_eq_true rfl) (Nat.le_of_ble_eq_true rfl) (Nat.le_of_ble_eq_true rfl) (Nat.le_of_ble_eq_true rfl) (Nat.le_of_ble_eq_true rfl) (Nat.le_of_ble_eq_true rfl)

set_option maxHeartbeats 4000000 in
set_option maxRecDepth 100000 in
theorem kT_trans4 (l : Launch) (hl0 : l.stackTraces = false) (dC : Nat → ClassId) (dI : Nat → Nat → Nat) (kI kJ kZ : ClassId) (x0 : Nat) (qc : Nat) (qb : Nat) (qs : Nat) (qk : Nat) (r0 : Nat) (lu : Int32) (lr : Int32) (qb1 : Nat) (nA : Nat) (bal : Nat → Int32) (a : Nat) (y : Int32) (v : Int32) (g : Int32) (hnA : nA ≤ 24) (ha : a < nA) (hxb : xHas nA y = true) (hv : ¬ v < 0) (hvb : ¬ bal a < v) (hgn : g < 0 ∨ 10000 < g) :
    XT stY l yLed_transact wLed_transact { frames := 6, cells := 1, slots := 6, locals := 90 } (dC, dI) xCl (x_T kI kJ kZ) [(x0, .inr (5, [.ref qc, .ref qb, .ref qs, .ref qk, .ref r0, .int lu, .int lr])), (qb, .inr (0, [.ref qb1, .int (nI nA)])), (qb1, .inl (kI, 24, .inl bal))] [.ref x0, .int (nI a), .int y, .int v, .int g] 1 6 nIAE := by
  refine XT.of (cc := cLed_transact) (maxL := 5) (ret := (some .int)) (by decide) rfl (Nat.le_of_ble_eq_true rfl) ?_
  intro p e s m below meth c A hx hb hml hown hts hlocks hex hA hK hP hD hX hS ls hl
  have hl : lv_has ls 5 [(0, .ref x0), (1, .int (nI a)), (2, .int y), (3, .int v), (4, .int g)] := hl
  refine lv_aload_n hx hb dLed_transact_0 rfl (lv_at hl 0 rfl) ?_
  refine lv_iload_n hx hb dLed_transact_1 rfl (lv_at hl 1 rfl) ?_
  refine XM.callVv (As := [.int (nI a)]) (rest := []) (wr := [(qb1, .inl (kI, 24, .inl bal))]) stX_ok ⟨hx, hb, hml, hown, hts⟩ (kLed_reqA l dC dI kI kJ kZ x0 qc qb qs qk r0 lu lr qb1 nA (nI a) (by first | assumption | omega) (xHas_nI ha (by omega))) (cwV 1 hts (x_gV gw353 gw355 gw1 gw36 gw356) rfl rfl rfl (by decide +kernel) ⟨Nat.le_of_ble_eq_true rfl, Nat.le_of_ble_eq_true rfl⟩) hK hP hD hS hA hX.1 [0, 1] [2] rfl rfl (by decide) (by decide) (by decide) rfl rfl rfl rfl hl.1 (Nat.le_of_ble_eq_true rfl) dLed_transact_2 ⟨Nat.le_of_ble_eq_true rfl, Nat.le_of_ble_eq_true rfl⟩ (fun u_1 H locs hw hP hD hS => ?_)
  have hP : va_P (dC, dI) xCl [(qb1, .inl (kI, 24, .inl bal)), (x0, .inr (5, [.ref qc, .ref qb, .ref qs, .ref qk, .ref r0, .int lu, .int lr])), (qb, .inr (0, [.ref qb1, .int (nI nA)]))] H := hP
  have hD : va_D A [(qb1, .inl (kI, 24, .inl bal)), (x0, .inr (5, [.ref qc, .ref qb, .ref qs, .ref qk, .ref r0, .int lu, .int lr])), (qb, .inr (0, [.ref qb1, .int (nI nA)]))] := hD
  refine lv_aload_n hx hb dLed_transact_5 rfl (lv_at hl 0 rfl) ?_
  refine lv_iload_n hx hb dLed_transact_6 rfl (lv_at hl 2 rfl) ?_
  refine XM.callVv (As := [.int y]) (rest := []) (wr := [(qb1, .inl (kI, 24, .inl bal))]) stX_ok ⟨hx, hb, hml, hown, hts⟩ (kLed_reqA l dC dI kI kJ kZ x0 qc qb qs qk r0 lu lr qb1 nA y (by first | assumption | omega) (hxb)) (cwV 1 hts (x_gV gw353 gw355 gw1 gw36 gw356) rfl rfl rfl (by decide +kernel) ⟨Nat.le_of_ble_eq_true rfl, Nat.le_of_ble_eq_true rfl⟩) hK hP hD hS hA hX.1 [1, 2] [0] rfl rfl (by decide) (by decide) (by decide) rfl rfl rfl rfl hl.1 (Nat.le_of_ble_eq_true rfl) dLed_transact_7 ⟨Nat.le_of_ble_eq_true rfl, Nat.le_of_ble_eq_true rfl⟩ (fun u_3 H locs hw hP hD hS => ?_)
  have hP : va_P (dC, dI) xCl [(qb1, .inl (kI, 24, .inl bal)), (x0, .inr (5, [.ref qc, .ref qb, .ref qs, .ref qk, .ref r0, .int lu, .int lr])), (qb, .inr (0, [.ref qb1, .int (nI nA)]))] H := hP
  have hD : va_D A [(qb1, .inl (kI, 24, .inl bal)), (x0, .inr (5, [.ref qc, .ref qb, .ref qs, .ref qk, .ref r0, .int lu, .int lr])), (qb, .inr (0, [.ref qb1, .int (nI nA)]))] := hD
  refine lv_aload_n hx hb dLed_transact_10 rfl (lv_at hl 0 rfl) ?_
  refine va_get (D := (dC, dI)) (ci := 5) (v := .ref qb) (C := RLed) (T := TLed) (N := 7) hx hb hts (fun w h => List.mem_cons_of_mem _ (layLed w h)) hown hK hP 1 rfl rfl 1 (by decide) (hts (.fieldLink RLed 19 "CallLedger" "balances" "LCallLedger$Balances;") (List.mem_cons_of_mem _ gw197)) (fun _ h9 => h9) rfl dLed_transact_11 ?_
  refine lv_iload_n hx hb dLed_transact_14 rfl (lv_at hl 1 rfl) ?_
  refine lv_iload_n hx hb dLed_transact_15 rfl (lv_at hl 2 rfl) ?_
  refine lv_iload_n hx hb dLed_transact_16 rfl (lv_at hl 3 rfl) ?_
  refine XM.callVi (As := [.int (nI a), .int y, .int v]) (rest := []) (wr := [(x0, .inr (5, [.ref qc, .ref qb, .ref qs, .ref qk, .ref r0, .int lu, .int lr]))]) stX_ok ⟨hx, hb, hml, hown, hts⟩ (kBal_canMove l dC dI kI kJ kZ qb qb1 nA bal a y v (by first | assumption | omega) (by first | assumption | omega)) (cwV 3 hts (x_gV gw441 gw442 gw443 gw38 gw444) rfl rfl rfl (by decide +kernel) ⟨Nat.le_of_ble_eq_true rfl, Nat.le_of_ble_eq_true rfl⟩) hK hP hD hS hA hX.1 [2, 0] [1] rfl rfl (by decide) (by decide) (by decide) rfl rfl rfl rfl hl.1 (Nat.le_of_ble_eq_true rfl) dLed_transact_17 ⟨Nat.le_of_ble_eq_true rfl, Nat.le_of_ble_eq_true rfl⟩ (fun r_6 u_5 H locs hw hP hD hS => ?_)
  obtain rfl := hw
  have hP : va_P (dC, dI) xCl [(x0, .inr (5, [.ref qc, .ref qb, .ref qs, .ref qk, .ref r0, .int lu, .int lr])), (qb, .inr (0, [.ref qb1, .int (nI nA)])), (qb1, .inl (kI, 24, .inl bal))] H := hP
  have hD : va_D A [(x0, .inr (5, [.ref qc, .ref qb, .ref qs, .ref qk, .ref r0, .int lu, .int lr])), (qb, .inr (0, [.ref qb1, .int (nI nA)])), (qb1, .inl (kI, 24, .inl bal))] := hD
  refine lv_if_ne (tgt := 33) hx hb dLed_transact_20 (by decide) (fun c20 => ?_) (fun c20 => ?_)
  · have c20 : ((xHas nA y && !(decide (v < 0)) && !(decide (bal a < v))) = true) := Classical.not_not.mp (fun z9 => c20 (x_i10.mpr z9))
    refine lv_iload hx hb dLed_transact_33 (lv_at hl 4 rfl) ?_
    refine lv_if_lt (tgt := 46) hx hb dLed_transact_35 (by decide) (fun c35 => ?_) (fun c35 => ?_)
    · exact x_throw hl0 hx hb hml hown hts hX (by decide) gw270 gw47 (List.mem_of_getElem? (i := 4) rfl) x_thIAE hP hS hl.1 dLed_transact_46 dLed_transact_49 dLed_transact_50 dLed_transact_52 dLed_transact_55 hex hlocks [0, 1, 2] rfl (Nat.le_of_ble_eq_true rfl) (Nat.le_of_ble_eq_true rfl) (Nat.le_of_ble_eq_true rfl) (Nat.le_of_ble_eq_true rfl) (Nat.le_of_ble_eq_true rfl) (Nat.le_of_ble_eq_true rfl)
    · refine lv_iload hx hb dLed_transact_38 (lv_at hl 4 rfl) ?_
      refine lv_sipush (v := 10000) hx hb dLed_transact_40 (by decide) ?_
      refine lv_icmp_le (tgt := 56) hx hb dLed_transact_43 (by decide) (fun c43 => ?_) (fun c43 => ?_)
      · exact (hgn.elim c35 (Int32.not_lt.mpr c43)).elim
      · exact x_throw hl0 hx hb hml hown hts hX (by decide) gw270 gw47 (List.mem_of_getElem? (i := 4) rfl) x_thIAE hP hS hl.1 dLed_transact_46 dLed_transact_49 dLed_transact_50 dLed_transact_52 dLed_transact_55 hex hlocks [0, 1, 2] rfl (Nat.le_of_ble_eq_true rfl) (Nat.le_of_ble_eq_true rfl) (Nat.le_of_ble_eq_true rfl) (Nat.le_of_ble_eq_true rfl) (Nat.le_of_ble_eq_true rfl) (Nat.le_of_ble_eq_true rfl)
  · have c20 : (xHas nA y && !(decide (v < 0)) && !(decide (bal a < v))) = false := Bool.eq_false_iff.mpr (x_i10.mp c20)
    exact absurd c20 (by simp [hxb, hv, hvb])

