/-! WHAT STANDS ROUND A THROW -/
def xUp : List String := ["java/lang/RuntimeException", "java/lang/Exception"]
def nIAE : String := "java/lang/IllegalArgumentException"
def nIOB : String := "java/lang/IndexOutOfBoundsException"
def nISE : String := "java/lang/IllegalStateException"
def xNC : List (String × String) := [(nIAE, nIAE), (nIOB, nIOB), (nISE, nISE)]
def xND : List MethodName := [⟨"java/lang/RuntimeException", "<init>", "(Ljava/lang/String;)V"⟩, ⟨"java/lang/Exception", "<init>", "(Ljava/lang/String;)V"⟩, ⟨"java/lang/Throwable", "<init>", "(Ljava/lang/String;)V"⟩]
def xNY : List Cond := xNC.map (fun q => Cond.castable q.1 q.2) ++ xND.map Cond.declares
def xStr : List (Nat × String) := [(50, "the balance is below 0"), (141, "there is no such account"), (148, "the code is sealed"), (89, "the account can't pay the amount"), (91, "gas is not 0 to 10000"), (128, "the log has no such number")]
def stY (A : Nat → Prop) (U : State) : Prop :=
  stX A U ∧ (∀ w ∈ xNY, va_Nw w U) ∧ vx_L Bundle.tN "UNASSIGNED_STACK" Bundle.steD A U U.heap ∧ vx_L Bundle.tN "SUPPRESSED_SENTINEL" Bundle.listD A U U.heap ∧
  (∀ k ∈ xStr, ∃ sa : Nat, vk_R RLed k.1 k.2 sa U) ∧ va_Nc nISE nIOB U ∧ va_Nc nIAE nIOB U
theorem stY_ok : x_ok stY := by
  intro A B U V h hAB hk hW
  obtain ⟨h1, h2, h3, h4, h5, h6, h7⟩ := h
  refine ⟨stX_ok A B U V h1 hAB hk hW, fun w hw => ?_, ((h3.kept hk).narrow hAB).moved hW.alike, ((h4.kept hk).narrow hAB).moved hW.alike, fun k hk9 => ?_, h6.moved hW.alike, h7.moved hW.alike⟩
  · have h9 := h2 w hw
    rcases List.mem_append.mp hw with hw | hw
    · obtain ⟨q, -, rfl⟩ := List.mem_map.mp hw
      exact va_Nw.warmC hW h9
    · obtain ⟨q, -, rfl⟩ := List.mem_map.mp hw
      exact va_Nw.warmD hW h9
  · obtain ⟨sa, h9⟩ := h5 k hk9
    exact ⟨sa, h9.warm hW⟩
theorem xNY_tab : ∀ w ∈ xNY, w.onTables = true := by decide +kernel
/-- a throw's words: the good ones among the tables', the others round it -/
def x_thW (ic : Nat) (cls : String) : Prop := (∀ w ∈ (vx_atS RLed ic cls xUp).filter goodWord, w ∈ xG) ∧ (∀ w ∈ (vx_atS RLed ic cls xUp).filter (fun w => !goodWord w), w ∈ xNY) ∧ ∀ w ∈ vx_atS RLed ic cls xUp, vx_ot w = true
set_option maxRecDepth 100000 in
theorem x_thIAE : x_thW 52 nIAE := ⟨fun w h => List.mem_filter.mpr ⟨by revert w; decide +kernel, (List.mem_filter.mp h).2⟩, by decide +kernel, by decide +kernel⟩
set_option maxRecDepth 100000 in
theorem x_thIOB : x_thW 130 nIOB := ⟨fun w h => List.mem_filter.mpr ⟨by revert w; decide +kernel, (List.mem_filter.mp h).2⟩, by decide +kernel, by decide +kernel⟩
set_option maxRecDepth 100000 in
theorem x_thISE : x_thW 150 nISE := ⟨fun w h => List.mem_filter.mpr ⟨by revert w; decide +kernel, (List.mem_filter.mp h).2⟩, by decide +kernel, by decide +kernel⟩
section XThrowNew
variable {p : Program} {l : Launch} {e : Env} {R : Room} {s : State} {m : MethodId} {args : Array Value} {below : List Frame} {meth : Method} {c : Code} {H : Heap} {locs : List Loc} {cells slots : Nat} {D : va_G} {cl : List vw_C} {ws w0 : va_W} {mc ms pc : Nat} {cc : ByteArray} {A : Nat → Prop} {rest : List Value} {ls : Array Slot} {cls text : String} {ik is ic nL : Nat} {a0 : Cond}
theorem x_throw (hl : l.stackTraces = false) (hexec : p.tables.exec = Jvm.exec) (hb : c.code = cc) (hml : c.maxLocals = nL) (hown : s.vm.findClass RLed = some m.cls) (hts : ∀ w ∈ a0 :: xG, w.before args s = true) (hX : stY A s)
    (hcls : Bundle.fit cls = true) (hk : Cond.classLink RLed ik cls ∈ xG) (hini : Cond.initialized cls ∈ xG) (hstr : (is, text) ∈ xStr) (hat : x_thW ic cls)
    (hP : va_P D cl ws H) (hS : va_S A s.heap H locs) (hsize : ls.size = nL)
    (d0 : decode cc pc = .ok (.new ik, 3)) (d3 : decode cc (pc + 3) = .ok (.dup, 1)) (d4 : decode cc (pc + 4) = .ok (.ldc is, 2)) (d6 : decode cc (pc + 6) = .ok (.invokespecial ic, 3)) (d9 : decode cc (pc + 9) = .ok (.athrow, 1))
    (hex : ∀ x ∈ c.exceptionTable.toList, False) (hlocks : meth.locks = false) (is0 : List Nat) (h0 : is0.map (fun i => ws[i]?) = w0.map some)
    (hRframes : 5 < R.frames) (hRlocals : (rest.map fun v => v.category).sum + 82 ≤ R.locals) (hRcells : cells + 1 ≤ R.cells) (hRslots : slots + 6 ≤ R.slots) (hm1 : cells + 1 ≤ mc) (hm2 : slots + 6 ≤ ms) :
    W p l e R s m args below meth c H locs cells slots (vx_MQ below x_NR (x_XC D cl w0 A cls) args s mc ms A) (F0 m pc ls rest) := by
  obtain ⟨h1, h2, h3, h4, h5, -, -⟩ := hX
  obtain ⟨sa, hsa⟩ := h5 _ hstr
  have hg : ∀ w ∈ xG, w.before args s = true := fun w h => hts w (List.mem_cons_of_mem _ h)
  have ho : ∀ w ∈ xG, vx_ot w = true := fun w h => by unfold vx_ot; rw [(List.mem_filter.mp h).2, Bool.or_true]
  refine vx_throwS (cls := cls) (text := text) (names := xUp) (ik := ik) (is := is) (ic := ic) (sa := sa) (A := A) hexec hb hl hown hcls (by decide) (hg _ hk) (hg _ hini) hsa
    (vx_hat (fun w h => hg w (hat.1 w h)) hat.2.1 (fun w h => va_Nw.use (xNY_tab w h) (h2 w h))) (fun w h => ?_) ⟨h1.2.2.2.1, h3⟩ ⟨h1.2.2.2.2, h4⟩ hS (hsize.trans hml.symm) d0 d3 d4 d6 d9 (fun x hx => (hex x hx).elim)
    hRframes hRlocals hRcells hRslots hlocks (fun t hv hz hq => ⟨rfl, (x_cut hP is0 h0).kept (fun k q hkq => hq q.1 ((x_cut hP is0 h0 k q hkq).lt)), ⟨Nat.le_trans hS.1 hz, fun q hq1 hq2 => (hq q (Nat.lt_of_lt_of_le hq1 hS.1)).trans (hS.2.1 q hq1 hq2)⟩⟩) hS.2.2 hm1 hm2
  rcases List.mem_cons.mp h with rfl | h
  · exact ho _ hk
  · rcases List.mem_cons.mp h with rfl | h
    · exact ho _ hini
    · exact hat.2.2 w h
end XThrowNew
