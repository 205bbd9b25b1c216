/-- links between nest mates: the tables' words that no list of words carries -/
def xN : List Cond := [.methodLinkNest RLed 11 yCod_init "CallLedger", .methodLinkNest RLed 18 yBal_init "CallLedger", .methodLinkNest RLed 25 ySto_init "CallLedger", .fieldLinkNest RLed 72 "CallLedger$Run" "arguments" "LCallLedger$Row;" "CallLedger", .fieldLinkNest RLed 103 "CallLedger$Run" "gas" "I" "CallLedger", .fieldLinkNest RLed 116 "CallLedger$Run" "ending" "I" "CallLedger", .fieldLinkNest RLed 110 "CallLedger$Run" "answer" "I" "CallLedger", .fieldLinkNest RCod 44 "CallLedger" "PRICES" "[I" "CallLedger", .methodLinkNest RLed 96 yRun_go "CallLedger", .fieldLinkNest RRun 164 "CallLedger" "PRICES" "[I" "CallLedger", .fieldLinkNest RRun 151 "CallLedger" "NEEDS" "[I" "CallLedger"]
theorem xN_in : ∀ w ∈ xN, w ∈ lw_tbl := by
  intro w h
  simp only [xN, List.mem_cons, List.not_mem_nil, or_false] at h
  rcases h with rfl | rfl | rfl | rfl | rfl | rfl | rfl | rfl | rfl | rfl | rfl
  · exact List.mem_of_getElem? (i := 61) (by decide +kernel)
  · exact List.mem_of_getElem? (i := 79) (by decide +kernel)
  · exact List.mem_of_getElem? (i := 92) (by decide +kernel)
  · exact List.mem_of_getElem? (i := 147) (by decide +kernel)
  · exact List.mem_of_getElem? (i := 155) (by decide +kernel)
  · exact List.mem_of_getElem? (i := 158) (by decide +kernel)
  · exact List.mem_of_getElem? (i := 160) (by decide +kernel)
  · exact List.mem_of_getElem? (i := 432) (by decide +kernel)
  · exact List.mem_of_getElem? (i := 452) (by decide +kernel)
  · exact List.mem_of_getElem? (i := 532) (by decide +kernel)
  · exact List.mem_of_getElem? (i := 544) (by decide +kernel)
theorem xN_warm {s U : State} (hW : s.WarmedH U.vm) (h : ∀ w ∈ xN, va_Nw w s) : ∀ w ∈ xN, va_Nw w U := by
  intro w hw
  have h1 := h w hw
  simp only [xN, List.mem_cons, List.not_mem_nil, or_false] at hw
  rcases hw with rfl | rfl | rfl | rfl | rfl | rfl | rfl | rfl | rfl | rfl | rfl
  · exact va_Nw.warmM hW h1
  · exact va_Nw.warmM hW h1
  · exact va_Nw.warmM hW h1
  · exact va_Nw.warmF hW h1
  · exact va_Nw.warmF hW h1
  · exact va_Nw.warmF hW h1
  · exact va_Nw.warmF hW h1
  · exact va_Nw.warmF hW h1
  · exact va_Nw.warmM hW h1
  · exact va_Nw.warmF hW h1
  · exact va_Nw.warmF hW h1
theorem xN_tab : ∀ w ∈ xN, w.onTables = true := by decide +kernel
/-- the class's two tables -/
def fPrice (j : Nat) : Int32 := ([1, 1, 1, 1, 1, 1, 1, 2, 3, 3, 1, 1, 1, 1, 1, 1, 2, 2, 10, 0, 1, 1, 1, 1, 5, 8, 1, 0, 1, 1] : List Int32).getD j 0
def fNeed (j : Nat) : Int32 := ([0, 0, 1, 1, 1, 2, 2, 2, 2, 2, 2, 2, 1, 2, 2, 2, 0, 1, 1, 2, 1, 0, 0, 0, 1, 1, 1, 3, 0, 1] : List Int32).getD j 0
/-- what stands round the world's cells: nest mates' links, the two tables, two statics of Throwable -/
def stX (A : Nat → Prop) (U : State) : Prop :=
  (∀ w ∈ xN, va_Nw w U) ∧
  (∃ t : Nat, va_Z "CallLedger" "PRICES" "[I" (.ref t) A U U.heap ∧ va_T .int t 30 (fun j => .int (fPrice j)) A U U.heap) ∧
  (∃ t : Nat, va_Z "CallLedger" "NEEDS" "[I" (.ref t) A U U.heap ∧ va_T .int t 30 (fun j => .int (fNeed j)) A U U.heap) ∧
  va_Zq "java/lang/Throwable" "UNASSIGNED_STACK" "[Ljava/lang/StackTraceElement;" A U U.heap ∧
  va_Zq "java/lang/Throwable" "SUPPRESSED_SENTINEL" "Ljava/util/List;" A U U.heap
theorem stX_ok : x_ok stX := by
  intro A B U V h hAB hk hW
  obtain ⟨h1, ⟨t1, h2, h3⟩, ⟨t2, h4, h5⟩, h6, h7⟩ := h
  exact ⟨xN_warm hW h1, ⟨t1, ((h2.kept hk).narrow hAB).moved hW.alike, ((h3.kept hk).narrow hAB).moved hW.alike⟩, ⟨t2, ((h4.kept hk).narrow hAB).moved hW.alike, ((h5.kept hk).narrow hAB).moved hW.alike⟩, ((h6.kept hk).narrow hAB).moved hW.alike, ((h7.kept hk).narrow hAB).moved hW.alike⟩
theorem stX.nest {A : Nat → Prop} {U : State} {w : Cond} {args : Array Value} (h : stX A U) (hw : w ∈ xN) : w.before args U = true := va_Nw.use (xN_tab w hw) (h.1 w hw)
theorem x_gd {a : Cond} {ws : List Cond} (h : ∀ w ∈ ws, w ∈ xG) : GoodIn (a :: xG) ws := fun w hw => ⟨List.mem_cons_of_mem _ (h w hw), good_of_word (List.mem_filter.mp (h w hw)).2⟩
theorem x_gV {a c : Cond} {own C : String} {idx : Nat} {y : MethodName} (h1 : Cond.methodLink own idx y ∈ xG) (h2 : Cond.instanceMethod y ∈ xG) (h3 : Cond.selects C y y ∈ xG) (h4 : Cond.initialized C ∈ xG) (h5 : c ∈ xG) : GoodIn (a :: xG) (wsV own idx C y (c :: xG)) := by
  refine x_gd (fun w hw => ?_)
  simp only [wsV, List.mem_append, List.mem_cons, List.not_mem_nil, or_false] at hw
  rcases hw with (rfl | rfl | rfl | rfl) | rfl | hw <;> assumption
theorem x_gS {a c : Cond} {own : String} {idx : Nat} {y : MethodName} (h1 : Cond.methodLink own idx y ∈ xG) (h2 : Cond.static y ∈ xG) (h4 : Cond.initialized y.cls ∈ xG) (h5 : c ∈ xG) : GoodIn (a :: xG) (va_wsS own idx y (c :: xG)) := by
  refine x_gd (fun w hw => ?_)
  simp only [va_wsS, List.mem_append, List.mem_cons, List.not_mem_nil, or_false] at hw
  rcases hw with (rfl | rfl | rfl) | rfl | hw <;> assumption
theorem x_gI {a c : Cond} (h5 : c ∈ xG) : GoodIn (a :: xG) (c :: xG) := by
  refine x_gd (fun w hw => ?_)
  rcases List.mem_cons.mp hw with rfl | hw <;> assumption
/-- numbers -/
theorem x_nn {i : Int32} (h : ¬ i < 0) : i = nI i.toNatClampNeg := by
  obtain ⟨j, hj, rfl⟩ := nI_of h
  rw [nI_clamp hj]
theorem x_ltn {i : Int32} {n : Nat} (h : ¬ i < 0) (h2 : ¬ nI n ≤ i) (hn : n < 2 ^ 31) : i.toNatClampNeg < n := by
  obtain ⟨j, hj, rfl⟩ := nI_of h
  rw [nI_clamp hj]
  exact Nat.not_le.mp (fun z => h2 (nI_le z hj))
theorem x_le_nlt {a b : Int32} (h : a ≤ b) : ¬ b < a := Int32.not_lt.mpr h
theorem x_nle_lt {a b : Int32} (h : ¬ a ≤ b) : b < a := Int32.not_le.mp h
theorem x_nge {x : Int32} (h : 0 ≤ x) : ¬ x < 0 := Int32.not_lt.mpr h
theorem x_ne {a b : Nat} (h : b ≤ a) : nI a - nI b = nI (a - b) := pk_sub h
theorem x_pred {a : Nat} (h : 1 ≤ a) : nI a - 1 = nI (a - 1) := pk_sub (b := 1) h
