set_option maxHeartbeats 4000000 in
set_option maxRecDepth 100000 in
theorem kLw_loop (l : Launch) (dC : Nat → ClassId) (dI : Nat → Nat → Nat) (kI kJ kZ : ClassId) (p : Program) (e : Env) (R : Room) (s : State) (m : MethodId) (args : Array Value) (below : List Frame) (meth : Method) (c : Code) (A : Nat → Prop) (Q : State → Prop) (x0 qc qb qs qk r0 rs rs1 ra ra1 rb qb1 qs1 qs2 qs3 qs4 qk1 qc1 qc2 qc3 m0 b1 b2 b3 b4 b5 b6 b7 b8 b9 b10 b11 b12 b13 b14 b15 b16 b17 b18 b19 b20 b21 b22 b23 b24 w0 sc : Nat) (iv : Value) (n : Nat) (f : Nat → Int32) (hl0 : l.stackTraces = false) {a0 : Cond} (hR1 : R.frames = 2048) (hR2 : R.cells = 601024) (hR3 : R.slots = 7293034) (hR4 : R.locals = 84000) (hx : p.tables.exec = Jvm.exec) (hb : c.code = code) (hml : c.maxLocals = 7) (hown : s.vm.findClass RLaw = some m.cls) (hts : ∀ w ∈ a0 :: xG, w.before args s = true) (hA : ∀ q : Nat, s.heap.size ≤ q → A q) (hK : va_K (dC, dI) xCl (x_T kI kJ kZ) s) (hX : stY A s) (hXs : va_X sc n f s s.heap) (hbl : sc < s.heap.size) (hbA : ¬ A sc) (C0 S0 : Nat) (hC0 : C0 ≤ 1000) (hS0 : S0 ≤ 40000) (hn : n ≤ 2560) (hend : ∀ (i : Nat) (H : Heap) (locs : List Loc) (ls : Array Slot), i ≤ 2565 → va_S A s.heap H locs → W p l e R s m args below meth c H locs (C0 + i) (S0 + 6 * i) Q (F0 m 653 ls [.int 1])) : ∀ (N i : Nat), n + 5 - i < N → i ≤ n + 4 → LAt l dC dI kI kJ kZ p e R s m args below meth c A Q x0 qc qb qs qk r0 rs rs1 ra ra1 rb qb1 qs1 qs2 qs3 qs4 qk1 qc1 qc2 qc3 m0 b1 b2 b3 b4 b5 b6 b7 b8 b9 b10 b11 b12 b13 b14 b15 b16 b17 b18 b19 b20 b21 b22 b23 b24 w0 sc iv n f i (C0 + i) (S0 + 6 * i) 23 := by
  intro N
  induction N with
  | zero => intro i hN; exact absurd hN (Nat.not_lt_zero _)
  | succ N ih =>
    intro i hN hi
    intro lu lr F1 F2 F3 F4 F5 F6 F7 F8 F9 sf sn rf rn bb bal nA kn ch sl nu cs nb lf ln cw lc z f0 f1 f2 f3 f4 f5 balM lfM ka kN kv oB oA oN oV oK oL sk ht pp gv gc cr vv gg rc ar fo σ pl hI hchn H locs hP hD hS ls hl
    refine lv_iload hx hb dLaw_law_23 (lv_at hl 4 rfl) ?_
    refine lv_aload_n hx hb dLaw_law_25 rfl (lv_at hl 0 rfl) ?_
    refine x_slen hx hb hXs hbl hbA hS dLaw_law_26 ?_
    refine lv_iconst (v := 5) hx hb dLaw_law_27 (by decide) ?_
    refine lv_isub hx hb dLaw_law_28 ?_
    refine lv_icmp_gt (tgt := 652) hx hb dLaw_law_29 (by decide) (fun c29 => ?_) (fun c29 => ?_)
    · refine lv_iconst (v := 1) hx hb dLaw_law_652 (by decide) ?_
      exact hend i H locs ls (by omega) hS
    · have hi5 : i + 5 ≤ n := Nat.le_of_not_lt (fun z9 => c29 ((lw_len hn (by omega)).mpr z9))
      have hk9 : LAt l dC dI kI kJ kZ p e R s m args below meth c A Q x0 qc qb qs qk r0 rs rs1 ra ra1 rb qb1 qs1 qs2 qs3 qs4 qk1 qc1 qc2 qc3 m0 b1 b2 b3 b4 b5 b6 b7 b8 b9 b10 b11 b12 b13 b14 b15 b16 b17 b18 b19 b20 b21 b22 b23 b24 w0 sc iv n f i (C0 + i + 1) (S0 + 6 * i + 6) 646 := by
        intro lu lr F1 F2 F3 F4 F5 F6 F7 F8 F9 sf sn rf rn bb bal nA kn ch sl nu cs nb lf ln cw lc z f0 f1 f2 f3 f4 f5 balM lfM ka kN kv oB oA oN oV oK oL sk ht pp gv gc cr vv gg rc ar fo σ pl hI hchn H locs hP hD hS ls hl
        refine lv_iinc (v := nI (i + 5)) (lv' := [(4, .int (nI (i + 5))), (0, .ref sc), (1, .ref x0), (2, .ref m0), (3, .ref w0)]) hx hb dLaw_law_646 hl (k := 4) rfl (nI_add i 5) (by decide) rfl (fun ls hl => ?_)
        refine lv_goto (tgt := 23) hx hb dLaw_law_649 (by decide) ?_
        refine W.widen (k := C0 + (i + 5)) (n := S0 + 6 * (i + 5)) (by omega) (by omega) ?_
        exact ih (i + 5) (by omega) (by omega) lu lr F1 F2 F3 F4 F5 F6 F7 F8 F9 sf sn rf rn bb bal nA kn ch sl nu cs nb lf ln cw lc z f0 f1 f2 f3 f4 f5 balM lfM ka kN kv oB oA oN oV oK oL sk ht pp gv gc cr vv gg rc ar fo σ pl hI hchn _ _ hP hD hS _ (lv_sub hl [1, 2, 3, 4, 0] rfl)
      refine lv_aload_n hx hb dLaw_law_32 rfl (lv_at hl 0 rfl) ?_
      refine lv_iload hx hb dLaw_law_33 (lv_at hl 4 rfl) ?_
      refine x_sld (j := i) hx hb hXs hbl hbA hS rfl (by omega) (by omega) dLaw_law_35 ?_
      refine lv_bipush (v := 15) hx hb dLaw_law_36 (by decide) ?_
      refine lv_iand hx hb dLaw_law_38 ?_
      obtain ⟨jq, hjq, ejq⟩ := pk_andE (f i) (m := 15) 4 (by decide)
      rcases (show jq = 0 ∨ jq = 1 ∨ jq = 2 ∨ jq = 3 ∨ jq = 4 ∨ jq = 5 ∨ jq = 6 ∨ jq = 7 ∨ jq = 8 ∨ jq = 9 ∨ jq = 10 ∨ jq = 11 ∨ jq = 12 ∨ jq = 13 ∨ jq = 14 ∨ jq = 15 by omega) with rfl | rfl | rfl | rfl | rfl | rfl | rfl | rfl | rfl | rfl | rfl | rfl | rfl | rfl | rfl | rfl
      · refine x_topi (y := 0) ejq ?_
        refine lv_tableIn (tgt := 104) (off := 65) hx hb dLaw_law_39 (by decide) (by decide) (by decide) (by decide) ?_
        exact kLw_104 l dC dI kI kJ kZ p e R s m args below meth c A Q x0 qc qb qs qk r0 rs rs1 ra ra1 rb qb1 qs1 qs2 qs3 qs4 qk1 qc1 qc2 qc3 m0 b1 b2 b3 b4 b5 b6 b7 b8 b9 b10 b11 b12 b13 b14 b15 b16 b17 b18 b19 b20 b21 b22 b23 b24 w0 sc iv n f hl0 hR1 hR2 hR3 hR4 hx hb hml hown hts hA hK hX hXs hbl hbA i (C0 + i) (S0 + 6 * i) (by omega) hn (by omega) (by omega) hk9 lu lr F1 F2 F3 F4 F5 F6 F7 F8 F9 sf sn rf rn bb bal nA kn ch sl nu cs nb lf ln cw lc z f0 f1 f2 f3 f4 f5 balM lfM ka kN kv oB oA oN oV oK oL sk ht pp gv gc cr vv gg rc ar fo σ pl hI hchn _ _ hP hD hS _ (lv_sub hl [0, 1, 2, 3, 4] rfl)
      · refine x_topi (y := 1) ejq ?_
        refine lv_tableIn (tgt := 160) (off := 121) hx hb dLaw_law_39 (by decide) (by decide) (by decide) (by decide) ?_
        exact kLw_160 l dC dI kI kJ kZ p e R s m args below meth c A Q x0 qc qb qs qk r0 rs rs1 ra ra1 rb qb1 qs1 qs2 qs3 qs4 qk1 qc1 qc2 qc3 m0 b1 b2 b3 b4 b5 b6 b7 b8 b9 b10 b11 b12 b13 b14 b15 b16 b17 b18 b19 b20 b21 b22 b23 b24 w0 sc iv n f hl0 hR1 hR2 hR3 hR4 hx hb hml hown hts hA hK hX hXs hbl hbA i (C0 + i) (S0 + 6 * i) (by omega) hn (by omega) (by omega) hk9 lu lr F1 F2 F3 F4 F5 F6 F7 F8 F9 sf sn rf rn bb bal nA kn ch sl nu cs nb lf ln cw lc z f0 f1 f2 f3 f4 f5 balM lfM ka kN kv oB oA oN oV oK oL sk ht pp gv gc cr vv gg rc ar fo σ pl hI hchn _ _ hP hD hS _ (lv_sub hl [0, 1, 2, 3, 4] rfl)
      · refine x_topi (y := 2) ejq ?_
        refine lv_tableIn (tgt := 228) (off := 189) hx hb dLaw_law_39 (by decide) (by decide) (by decide) (by decide) ?_
        exact kLw_228 l dC dI kI kJ kZ p e R s m args below meth c A Q x0 qc qb qs qk r0 rs rs1 ra ra1 rb qb1 qs1 qs2 qs3 qs4 qk1 qc1 qc2 qc3 m0 b1 b2 b3 b4 b5 b6 b7 b8 b9 b10 b11 b12 b13 b14 b15 b16 b17 b18 b19 b20 b21 b22 b23 b24 w0 sc iv n f hl0 hR1 hR2 hR3 hR4 hx hb hml hown hts hA hK hX hXs hbl hbA i (C0 + i) (S0 + 6 * i) (by omega) hn (by omega) (by omega) hk9 lu lr F1 F2 F3 F4 F5 F6 F7 F8 F9 sf sn rf rn bb bal nA kn ch sl nu cs nb lf ln cw lc z f0 f1 f2 f3 f4 f5 balM lfM ka kN kv oB oA oN oV oK oL sk ht pp gv gc cr vv gg rc ar fo σ pl hI hchn _ _ hP hD hS _ (lv_sub hl [0, 1, 2, 3, 4] rfl)
      · refine x_topi (y := 3) ejq ?_
        refine lv_tableIn (tgt := 284) (off := 245) hx hb dLaw_law_39 (by decide) (by decide) (by decide) (by decide) ?_
        exact kLw_284 l dC dI kI kJ kZ p e R s m args below meth c A Q x0 qc qb qs qk r0 rs rs1 ra ra1 rb qb1 qs1 qs2 qs3 qs4 qk1 qc1 qc2 qc3 m0 b1 b2 b3 b4 b5 b6 b7 b8 b9 b10 b11 b12 b13 b14 b15 b16 b17 b18 b19 b20 b21 b22 b23 b24 w0 sc iv n f hl0 hR1 hR2 hR3 hR4 hx hb hml hown hts hA hK hX hXs hbl hbA i (C0 + i) (S0 + 6 * i) (by omega) hn (by omega) (by omega) hk9 lu lr F1 F2 F3 F4 F5 F6 F7 F8 F9 sf sn rf rn bb bal nA kn ch sl nu cs nb lf ln cw lc z f0 f1 f2 f3 f4 f5 balM lfM ka kN kv oB oA oN oV oK oL sk ht pp gv gc cr vv gg rc ar fo σ pl hI hchn _ _ hP hD hS _ (lv_sub hl [0, 1, 2, 3, 4] rfl)
      · refine x_topi (y := 4) ejq ?_
        refine lv_tableIn (tgt := 309) (off := 270) hx hb dLaw_law_39 (by decide) (by decide) (by decide) (by decide) ?_
        exact kLw_309 l dC dI kI kJ kZ p e R s m args below meth c A Q x0 qc qb qs qk r0 rs rs1 ra ra1 rb qb1 qs1 qs2 qs3 qs4 qk1 qc1 qc2 qc3 m0 b1 b2 b3 b4 b5 b6 b7 b8 b9 b10 b11 b12 b13 b14 b15 b16 b17 b18 b19 b20 b21 b22 b23 b24 w0 sc iv n f hl0 hR1 hR2 hR3 hR4 hx hb hml hown hts hA hK hX hXs hbl hbA i (C0 + i) (S0 + 6 * i) (by omega) hn (by omega) (by omega) hk9 lu lr F1 F2 F3 F4 F5 F6 F7 F8 F9 sf sn rf rn bb bal nA kn ch sl nu cs nb lf ln cw lc z f0 f1 f2 f3 f4 f5 balM lfM ka kN kv oB oA oN oV oK oL sk ht pp gv gc cr vv gg rc ar fo σ pl hI hchn _ _ hP hD hS _ (lv_sub hl [0, 1, 2, 3, 4] rfl)
      · refine x_topi (y := 5) ejq ?_
        refine lv_tableIn (tgt := 401) (off := 362) hx hb dLaw_law_39 (by decide) (by decide) (by decide) (by decide) ?_
        exact kLw_401 l dC dI kI kJ kZ p e R s m args below meth c A Q x0 qc qb qs qk r0 rs rs1 ra ra1 rb qb1 qs1 qs2 qs3 qs4 qk1 qc1 qc2 qc3 m0 b1 b2 b3 b4 b5 b6 b7 b8 b9 b10 b11 b12 b13 b14 b15 b16 b17 b18 b19 b20 b21 b22 b23 b24 w0 sc iv n f hl0 hR1 hR2 hR3 hR4 hx hb hml hown hts hA hK hX hXs hbl hbA i (C0 + i) (S0 + 6 * i) (by omega) hn (by omega) (by omega) hk9 lu lr F1 F2 F3 F4 F5 F6 F7 F8 F9 sf sn rf rn bb bal nA kn ch sl nu cs nb lf ln cw lc z f0 f1 f2 f3 f4 f5 balM lfM ka kN kv oB oA oN oV oK oL sk ht pp gv gc cr vv gg rc ar fo σ pl hI hchn _ _ hP hD hS _ (lv_sub hl [0, 1, 2, 3, 4] rfl)
      · refine x_topi (y := 6) ejq ?_
        refine lv_tableIn (tgt := 414) (off := 375) hx hb dLaw_law_39 (by decide) (by decide) (by decide) (by decide) ?_
        exact kLw_414 l dC dI kI kJ kZ p e R s m args below meth c A Q x0 qc qb qs qk r0 rs rs1 ra ra1 rb qb1 qs1 qs2 qs3 qs4 qk1 qc1 qc2 qc3 m0 b1 b2 b3 b4 b5 b6 b7 b8 b9 b10 b11 b12 b13 b14 b15 b16 b17 b18 b19 b20 b21 b22 b23 b24 w0 sc iv n f hl0 hR1 hR2 hR3 hR4 hx hb hml hown hts hA hK hX hXs hbl hbA i (C0 + i) (S0 + 6 * i) (by omega) hn (by omega) (by omega) hk9 lu lr F1 F2 F3 F4 F5 F6 F7 F8 F9 sf sn rf rn bb bal nA kn ch sl nu cs nb lf ln cw lc z f0 f1 f2 f3 f4 f5 balM lfM ka kN kv oB oA oN oV oK oL sk ht pp gv gc cr vv gg rc ar fo σ pl hI hchn _ _ hP hD hS _ (lv_sub hl [0, 1, 2, 3, 4] rfl)
      · refine x_topi (y := 7) ejq ?_
        refine lv_tableIn (tgt := 427) (off := 388) hx hb dLaw_law_39 (by decide) (by decide) (by decide) (by decide) ?_
        exact kLw_427 l dC dI kI kJ kZ p e R s m args below meth c A Q x0 qc qb qs qk r0 rs rs1 ra ra1 rb qb1 qs1 qs2 qs3 qs4 qk1 qc1 qc2 qc3 m0 b1 b2 b3 b4 b5 b6 b7 b8 b9 b10 b11 b12 b13 b14 b15 b16 b17 b18 b19 b20 b21 b22 b23 b24 w0 sc iv n f hl0 hR1 hR2 hR3 hR4 hx hb hml hown hts hA hK hX hXs hbl hbA i (C0 + i) (S0 + 6 * i) (by omega) hn (by omega) (by omega) hk9 lu lr F1 F2 F3 F4 F5 F6 F7 F8 F9 sf sn rf rn bb bal nA kn ch sl nu cs nb lf ln cw lc z f0 f1 f2 f3 f4 f5 balM lfM ka kN kv oB oA oN oV oK oL sk ht pp gv gc cr vv gg rc ar fo σ pl hI hchn _ _ hP hD hS _ (lv_sub hl [0, 1, 2, 3, 4] rfl)
      · refine x_topi (y := 8) ejq ?_
        refine lv_tableIn (tgt := 483) (off := 444) hx hb dLaw_law_39 (by decide) (by decide) (by decide) (by decide) ?_
        exact kLw_483 l dC dI kI kJ kZ p e R s m args below meth c A Q x0 qc qb qs qk r0 rs rs1 ra ra1 rb qb1 qs1 qs2 qs3 qs4 qk1 qc1 qc2 qc3 m0 b1 b2 b3 b4 b5 b6 b7 b8 b9 b10 b11 b12 b13 b14 b15 b16 b17 b18 b19 b20 b21 b22 b23 b24 w0 sc iv n f hl0 hR1 hR2 hR3 hR4 hx hb hml hown hts hA hK hX hXs hbl hbA i (C0 + i) (S0 + 6 * i) (by omega) hn (by omega) (by omega) hk9 lu lr F1 F2 F3 F4 F5 F6 F7 F8 F9 sf sn rf rn bb bal nA kn ch sl nu cs nb lf ln cw lc z f0 f1 f2 f3 f4 f5 balM lfM ka kN kv oB oA oN oV oK oL sk ht pp gv gc cr vv gg rc ar fo σ pl hI hchn _ _ hP hD hS _ (lv_sub hl [0, 1, 2, 3, 4] rfl)
      · refine x_topi (y := 9) ejq ?_
        refine lv_tableIn (tgt := 551) (off := 512) hx hb dLaw_law_39 (by decide) (by decide) (by decide) (by decide) ?_
        exact kLw_551 l dC dI kI kJ kZ p e R s m args below meth c A Q x0 qc qb qs qk r0 rs rs1 ra ra1 rb qb1 qs1 qs2 qs3 qs4 qk1 qc1 qc2 qc3 m0 b1 b2 b3 b4 b5 b6 b7 b8 b9 b10 b11 b12 b13 b14 b15 b16 b17 b18 b19 b20 b21 b22 b23 b24 w0 sc iv n f hl0 hR1 hR2 hR3 hR4 hx hb hml hown hts hA hK hX hXs hbl hbA i (C0 + i) (S0 + 6 * i) (by omega) hn (by omega) (by omega) hk9 lu lr F1 F2 F3 F4 F5 F6 F7 F8 F9 sf sn rf rn bb bal nA kn ch sl nu cs nb lf ln cw lc z f0 f1 f2 f3 f4 f5 balM lfM ka kN kv oB oA oN oV oK oL sk ht pp gv gc cr vv gg rc ar fo σ pl hI hchn _ _ hP hD hS _ (lv_sub hl [0, 1, 2, 3, 4] rfl)
      · refine x_topi (y := 10) ejq ?_
        refine lv_tableIn (tgt := 564) (off := 525) hx hb dLaw_law_39 (by decide) (by decide) (by decide) (by decide) ?_
        exact kLw_564 l dC dI kI kJ kZ p e R s m args below meth c A Q x0 qc qb qs qk r0 rs rs1 ra ra1 rb qb1 qs1 qs2 qs3 qs4 qk1 qc1 qc2 qc3 m0 b1 b2 b3 b4 b5 b6 b7 b8 b9 b10 b11 b12 b13 b14 b15 b16 b17 b18 b19 b20 b21 b22 b23 b24 w0 sc iv n f hl0 hR1 hR2 hR3 hR4 hx hb hml hown hts hA hK hX hXs hbl hbA i (C0 + i) (S0 + 6 * i) (by omega) hn (by omega) (by omega) hk9 lu lr F1 F2 F3 F4 F5 F6 F7 F8 F9 sf sn rf rn bb bal nA kn ch sl nu cs nb lf ln cw lc z f0 f1 f2 f3 f4 f5 balM lfM ka kN kv oB oA oN oV oK oL sk ht pp gv gc cr vv gg rc ar fo σ pl hI hchn _ _ hP hD hS _ (lv_sub hl [0, 1, 2, 3, 4] rfl)
      · refine x_topi (y := 11) ejq ?_
        refine lv_tableIn (tgt := 577) (off := 538) hx hb dLaw_law_39 (by decide) (by decide) (by decide) (by decide) ?_
        exact kLw_577 l dC dI kI kJ kZ p e R s m args below meth c A Q x0 qc qb qs qk r0 rs rs1 ra ra1 rb qb1 qs1 qs2 qs3 qs4 qk1 qc1 qc2 qc3 m0 b1 b2 b3 b4 b5 b6 b7 b8 b9 b10 b11 b12 b13 b14 b15 b16 b17 b18 b19 b20 b21 b22 b23 b24 w0 sc iv n f hl0 hR1 hR2 hR3 hR4 hx hb hml hown hts hA hK hX hXs hbl hbA i (C0 + i) (S0 + 6 * i) (by omega) hn (by omega) (by omega) hk9 lu lr F1 F2 F3 F4 F5 F6 F7 F8 F9 sf sn rf rn bb bal nA kn ch sl nu cs nb lf ln cw lc z f0 f1 f2 f3 f4 f5 balM lfM ka kN kv oB oA oN oV oK oL sk ht pp gv gc cr vv gg rc ar fo σ pl hI hchn _ _ hP hD hS _ (lv_sub hl [0, 1, 2, 3, 4] rfl)
      · refine x_topi (y := 12) ejq ?_
        refine lv_tableIn (tgt := 633) (off := 594) hx hb dLaw_law_39 (by decide) (by decide) (by decide) (by decide) ?_
        exact kLw_633 l dC dI kI kJ kZ p e R s m args below meth c A Q x0 qc qb qs qk r0 rs rs1 ra ra1 rb qb1 qs1 qs2 qs3 qs4 qk1 qc1 qc2 qc3 m0 b1 b2 b3 b4 b5 b6 b7 b8 b9 b10 b11 b12 b13 b14 b15 b16 b17 b18 b19 b20 b21 b22 b23 b24 w0 sc iv n f hl0 hR1 hR2 hR3 hR4 hx hb hml hown hts hA hK hX hXs hbl hbA i (C0 + i) (S0 + 6 * i) (by omega) hn (by omega) (by omega) hk9 lu lr F1 F2 F3 F4 F5 F6 F7 F8 F9 sf sn rf rn bb bal nA kn ch sl nu cs nb lf ln cw lc z f0 f1 f2 f3 f4 f5 balM lfM ka kN kv oB oA oN oV oK oL sk ht pp gv gc cr vv gg rc ar fo σ pl hI hchn _ _ hP hD hS _ (lv_sub hl [0, 1, 2, 3, 4] rfl)
      · refine x_topi (y := 13) ejq ?_
        refine lv_tableOut (tgt := 646) hx hb dLaw_law_39 (by decide) (by decide) ?_
        refine W.widen (k := C0 + i + 1) (n := S0 + 6 * i + 6) (by omega) (by omega) ?_
        exact hk9 lu lr F1 F2 F3 F4 F5 F6 F7 F8 F9 sf sn rf rn bb bal nA kn ch sl nu cs nb lf ln cw lc z f0 f1 f2 f3 f4 f5 balM lfM ka kN kv oB oA oN oV oK oL sk ht pp gv gc cr vv gg rc ar fo σ pl hI hchn _ _ hP hD hS _ (lv_sub hl [0, 1, 2, 3, 4] rfl)
      · refine x_topi (y := 14) ejq ?_
        refine lv_tableOut (tgt := 646) hx hb dLaw_law_39 (by decide) (by decide) ?_
        refine W.widen (k := C0 + i + 1) (n := S0 + 6 * i + 6) (by omega) (by omega) ?_
        exact hk9 lu lr F1 F2 F3 F4 F5 F6 F7 F8 F9 sf sn rf rn bb bal nA kn ch sl nu cs nb lf ln cw lc z f0 f1 f2 f3 f4 f5 balM lfM ka kN kv oB oA oN oV oK oL sk ht pp gv gc cr vv gg rc ar fo σ pl hI hchn _ _ hP hD hS _ (lv_sub hl [0, 1, 2, 3, 4] rfl)
      · refine x_topi (y := 15) ejq ?_
        refine lv_tableOut (tgt := 646) hx hb dLaw_law_39 (by decide) (by decide) ?_
        refine W.widen (k := C0 + i + 1) (n := S0 + 6 * i + 6) (by omega) (by omega) ?_
        exact hk9 lu lr F1 F2 F3 F4 F5 F6 F7 F8 F9 sf sn rf rn bb bal nA kn ch sl nu cs nb lf ln cw lc z f0 f1 f2 f3 f4 f5 balM lfM ka kN kv oB oA oN oV oK oL sk ht pp gv gc cr vv gg rc ar fo σ pl hI hchn _ _ hP hD hS _ (lv_sub hl [0, 1, 2, 3, 4] rfl)

