/-! A CALL, A RUN, AND WHAT CAN'T BE SEEN -/
/-- a run, as its caller sees it: from, account, amount, gas, arguments, the shared: how it ended, its answer, the gas left, the shared -/
abbrev XC : Type := Nat → Nat → Int32 → Nat → (Nat → Int32) → Nat → XS → Int32 × Int32 × Nat × XS
def xMove (bal : Nat → Int32) (a d : Nat) (v : Int32) : Nat → Int32 := upd (upd bal a (bal a - v)) d (upd bal a (bal a - v) d + v)
def xGiven (g : Int32) (gs : Nat) : Nat := if gs - gs / 8 < g.toNatClampNeg then gs - gs / 8 else g.toNatClampNeg
def xCan (nA ac : Nat) (bal : Nat → Int32) (t v : Int32) : Bool := xHas nA t && !(decide (v < 0)) && !(decide (bal ac < v))
/-- CALL with j arguments, the price paid, the stack looked at, the place gone on -/
def xCall (f : Option XC) (j nA ac : Nat) (F : XF) (S : XS) : XF × XS :=
  match f with
  | none => ((upd (upd F.1 (F.2.1 - 1 - 1 - 1 - j) 0) (F.2.1 - 1 - 1 - 1 - j + 1) 0, F.2.1 - 1 - 1 - 1 - j + 1 + 1, F.2.2), S)
  | some f =>
    if F.1 (F.2.1 - 1 - 1 - 1) < 0 ∨ xCan nA ac S.1 (F.1 (F.2.1 - 1)) (F.1 (F.2.1 - 1 - 1)) = false then
      ((upd (upd F.1 (F.2.1 - 1 - 1 - 1 - j) 0) (F.2.1 - 1 - 1 - 1 - j + 1) 0, F.2.1 - 1 - 1 - 1 - j + 1 + 1, F.2.2), S)
    else
      let r := f ac (F.1 (F.2.1 - 1)).toNatClampNeg (F.1 (F.2.1 - 1 - 1)) (xGiven (F.1 (F.2.1 - 1 - 1 - 1)) F.2.2.2.1) (fun i => F.1 (F.2.1 - 1 - 1 - 1 - 1 - i)) j S
      ((upd (upd F.1 (F.2.1 - 1 - 1 - 1 - j) r.2.1) (F.2.1 - 1 - 1 - 1 - j + 1) (if r.1 = 0 then 1 else 0), F.2.1 - 1 - 1 - 1 - j + 1 + 1, F.2.2.1, F.2.2.2.1 - xGiven (F.1 (F.2.1 - 1 - 1 - 1)) F.2.2.2.1 + r.2.2.1, F.2.2.2.2), r.2.2.2)
/-- one step of a run -/
noncomputable def xStepC (f : Option XC) (cw : Nat → Int32) (lc : Nat → Nat) (z : Nat → Bool) (nA ac : Nat) (cl vl : Int32) (rf : Nat → Int32) (rn : Nat) (F : XF) (S : XS) : XF × XS :=
  @ite _ (xIsCall cw lc z ac F S) (Classical.propDecidable _)
    (xCall f (wN (cw (ac * 160 + F.2.2.1))).toNatClampNeg nA ac (F.1, F.2.1, F.2.2.1 + 1, F.2.2.2.1 - xPrice 27 F.1 F.2.1 S.2.1 ac, F.2.2.2.2) S)
    (xStep cw lc z nA ac cl vl rf rn F S)
noncomputable def xLoop (f : Option XC) (cw : Nat → Int32) (lc : Nat → Nat) (z : Nat → Bool) (nA ac : Nat) (cl vl : Int32) (rf : Nat → Int32) (rn : Nat) : Nat → XF → XS → XF × XS
  | 0, F, S => (F, S)
  | n + 1, F, S => if F.2.2.2.2.1 = -1 then xLoop f cw lc z nA ac cl vl rf rn n (xStepC f cw lc z nA ac cl vl rf rn F S).1 (xStepC f cw lc z nA ac cl vl rf rn F S).2 else (F, S)
noncomputable def xGoF (f : Option XC) (cw : Nat → Int32) (lc : Nat → Nat) (z : Nat → Bool) (nA : Nat) : XC := fun fr ac v g0 rf rn S =>
  let R := xLoop f cw lc z nA ac (nI fr) v rf rn (g0 + 2) (fun _ => 0, 0, 0, g0, -1, 0) (xMove S.1 fr ac v, S.2)
  if R.1.2.2.2.2.1 = 0 then (0, R.1.2.2.2.2.2, R.1.2.2.2.1, R.2) else (R.1.2.2.2.2.1, R.1.2.2.2.2.2, R.1.2.2.2.1, S)
noncomputable def xGo (cw : Nat → Int32) (lc : Nat → Nat) (z : Nat → Bool) (nA : Nat) : Nat → XC
  | 0 => xGoF none cw lc z nA
  | d + 1 => xGoF (some (xGo cw lc z nA d)) cw lc z nA
/-- the same but for what lies above the stack's height -/
def FEq (F G : XF) : Prop := F.2 = G.2 ∧ ∀ i, i < F.2.1 → F.1 i = G.1 i
def SEq (nA : Nat) (S T : XS) : Prop := (∀ i, i < nA → S.1 i = T.1 i) ∧ S.2.1 = T.2.1 ∧ S.2.2.1 = T.2.2.1 ∧ S.2.2.2.2 = T.2.2.2.2 ∧ ∀ i, i < S.2.2.2.2 → S.2.2.2.1 i = T.2.2.2.1 i
theorem ag_push {f g : Nat → Int32} {n : Nat} {y y2 : Int32} (h : ∀ i, i < n → f i = g i) (e : y = y2) : ∀ i, i < n + 1 → upd f n y i = upd g n y2 i := by
  intro i hi
  by_cases c : i = n
  · subst c; rw [pk_us, pk_us]; exact e
  · rw [pk_un c, pk_un c]; exact h i (by omega)
theorem ag_upd {f g : Nat → Int32} {n k : Nat} {y y2 : Int32} (h : ∀ i, i < n → f i = g i) (e : y = y2) : ∀ i, i < n → upd f k y i = upd g k y2 i := by
  intro i hi
  by_cases c : i = k
  · subst c; rw [pk_us, pk_us]; exact e
  · rw [pk_un c, pk_un c]; exact h i hi
theorem ag_if {P : Prop} [Decidable P] {a b c : Int32} (h : P → a = b) : (if P then a else c) = if P then b else c := by
  by_cases q : P
  · rw [if_pos q, if_pos q]; exact h q
  · rw [if_neg q, if_neg q]
theorem ag_dn {f g : Nat → Int32} {n k : Nat} (h : ∀ i, i < n → f i = g i) (hk : k ≤ n) : ∀ i, i < k → f i = g i := fun i hi => h i (by omega)
theorem xPerf_c0 {x : Int32} {nA ac : Nat} {cl vl : Int32} {rf rf2 : Nat → Int32} {rn : Nat} {sf sg : Nat → Int32} {sn pk gs : Nat} {en an : Int32} {bal bal2 : Nat → Int32} {σ : Int64 → Int32} {kn : Nat} {lf lg : Nat → Int32} {ln : Nat} (hnd : 0 ≤ sn) (h3 : 0 = 3 ∨ 0 = 4 → x.toNatClampNeg < sn) (hnA : nA < 2 ^ 31) (hrn : rn < 2 ^ 31) (hF : ∀ i, i < sn → sf i = sg i) (hB : ∀ i, i < nA → bal i = bal2 i) (hL : ∀ i, i < ln → lf i = lg i) (hR : ∀ i, i < rn → rf i = rf2 i) : FEq (xPerf 0 x nA ac cl vl rf rn (sf, sn, pk, gs, en, an) (bal, σ, kn, lf, ln)).1 (xPerf 0 x nA ac cl vl rf2 rn (sg, sn, pk, gs, en, an) (bal2, σ, kn, lg, ln)).1 ∧ SEq nA (xPerf 0 x nA ac cl vl rf rn (sf, sn, pk, gs, en, an) (bal, σ, kn, lf, ln)).2 (xPerf 0 x nA ac cl vl rf2 rn (sg, sn, pk, gs, en, an) (bal2, σ, kn, lg, ln)).2 := by
  have hS : SEq nA (bal, σ, kn, lf, ln) (bal2, σ, kn, lg, ln) := ⟨hB, rfl, rfl, rfl, hL⟩
  simp only [xPerf]
  exact ⟨⟨rfl, hF⟩, hS⟩
theorem xPerf_c1 {x : Int32} {nA ac : Nat} {cl vl : Int32} {rf rf2 : Nat → Int32} {rn : Nat} {sf sg : Nat → Int32} {sn pk gs : Nat} {en an : Int32} {bal bal2 : Nat → Int32} {σ : Int64 → Int32} {kn : Nat} {lf lg : Nat → Int32} {ln : Nat} (hnd : 0 ≤ sn) (h3 : 1 = 3 ∨ 1 = 4 → x.toNatClampNeg < sn) (hnA : nA < 2 ^ 31) (hrn : rn < 2 ^ 31) (hF : ∀ i, i < sn → sf i = sg i) (hB : ∀ i, i < nA → bal i = bal2 i) (hL : ∀ i, i < ln → lf i = lg i) (hR : ∀ i, i < rn → rf i = rf2 i) : FEq (xPerf 1 x nA ac cl vl rf rn (sf, sn, pk, gs, en, an) (bal, σ, kn, lf, ln)).1 (xPerf 1 x nA ac cl vl rf2 rn (sg, sn, pk, gs, en, an) (bal2, σ, kn, lg, ln)).1 ∧ SEq nA (xPerf 1 x nA ac cl vl rf rn (sf, sn, pk, gs, en, an) (bal, σ, kn, lf, ln)).2 (xPerf 1 x nA ac cl vl rf2 rn (sg, sn, pk, gs, en, an) (bal2, σ, kn, lg, ln)).2 := by
  have hS : SEq nA (bal, σ, kn, lf, ln) (bal2, σ, kn, lg, ln) := ⟨hB, rfl, rfl, rfl, hL⟩
  simp only [xPerf]
  exact ⟨⟨rfl, ag_push hF rfl⟩, hS⟩
theorem xPerf_c2 {x : Int32} {nA ac : Nat} {cl vl : Int32} {rf rf2 : Nat → Int32} {rn : Nat} {sf sg : Nat → Int32} {sn pk gs : Nat} {en an : Int32} {bal bal2 : Nat → Int32} {σ : Int64 → Int32} {kn : Nat} {lf lg : Nat → Int32} {ln : Nat} (hnd : 1 ≤ sn) (h3 : 2 = 3 ∨ 2 = 4 → x.toNatClampNeg < sn) (hnA : nA < 2 ^ 31) (hrn : rn < 2 ^ 31) (hF : ∀ i, i < sn → sf i = sg i) (hB : ∀ i, i < nA → bal i = bal2 i) (hL : ∀ i, i < ln → lf i = lg i) (hR : ∀ i, i < rn → rf i = rf2 i) : FEq (xPerf 2 x nA ac cl vl rf rn (sf, sn, pk, gs, en, an) (bal, σ, kn, lf, ln)).1 (xPerf 2 x nA ac cl vl rf2 rn (sg, sn, pk, gs, en, an) (bal2, σ, kn, lg, ln)).1 ∧ SEq nA (xPerf 2 x nA ac cl vl rf rn (sf, sn, pk, gs, en, an) (bal, σ, kn, lf, ln)).2 (xPerf 2 x nA ac cl vl rf2 rn (sg, sn, pk, gs, en, an) (bal2, σ, kn, lg, ln)).2 := by
  have hS : SEq nA (bal, σ, kn, lf, ln) (bal2, σ, kn, lg, ln) := ⟨hB, rfl, rfl, rfl, hL⟩
  simp only [xPerf]
  have e0 : sf (sn - 1) = sg (sn - 1) := hF _ (by omega)
  exact ⟨⟨rfl, ag_dn hF (Nat.sub_le _ _)⟩, hS⟩
theorem xPerf_c3 {x : Int32} {nA ac : Nat} {cl vl : Int32} {rf rf2 : Nat → Int32} {rn : Nat} {sf sg : Nat → Int32} {sn pk gs : Nat} {en an : Int32} {bal bal2 : Nat → Int32} {σ : Int64 → Int32} {kn : Nat} {lf lg : Nat → Int32} {ln : Nat} (hnd : 1 ≤ sn) (h3 : 3 = 3 ∨ 3 = 4 → x.toNatClampNeg < sn) (hnA : nA < 2 ^ 31) (hrn : rn < 2 ^ 31) (hF : ∀ i, i < sn → sf i = sg i) (hB : ∀ i, i < nA → bal i = bal2 i) (hL : ∀ i, i < ln → lf i = lg i) (hR : ∀ i, i < rn → rf i = rf2 i) : FEq (xPerf 3 x nA ac cl vl rf rn (sf, sn, pk, gs, en, an) (bal, σ, kn, lf, ln)).1 (xPerf 3 x nA ac cl vl rf2 rn (sg, sn, pk, gs, en, an) (bal2, σ, kn, lg, ln)).1 ∧ SEq nA (xPerf 3 x nA ac cl vl rf rn (sf, sn, pk, gs, en, an) (bal, σ, kn, lf, ln)).2 (xPerf 3 x nA ac cl vl rf2 rn (sg, sn, pk, gs, en, an) (bal2, σ, kn, lg, ln)).2 := by
  have hS : SEq nA (bal, σ, kn, lf, ln) (bal2, σ, kn, lg, ln) := ⟨hB, rfl, rfl, rfl, hL⟩
  simp only [xPerf]
  have e0 : sf (sn - 1) = sg (sn - 1) := hF _ (by omega)
  have e2 : sf (sn - 1 - x.toNatClampNeg) = sg (sn - 1 - x.toNatClampNeg) := hF _ (by have := h3 (by decide); omega)
  exact ⟨⟨rfl, ag_push hF e2⟩, hS⟩
theorem xPerf_c4 {x : Int32} {nA ac : Nat} {cl vl : Int32} {rf rf2 : Nat → Int32} {rn : Nat} {sf sg : Nat → Int32} {sn pk gs : Nat} {en an : Int32} {bal bal2 : Nat → Int32} {σ : Int64 → Int32} {kn : Nat} {lf lg : Nat → Int32} {ln : Nat} (hnd : 1 ≤ sn) (h3 : 4 = 3 ∨ 4 = 4 → x.toNatClampNeg < sn) (hnA : nA < 2 ^ 31) (hrn : rn < 2 ^ 31) (hF : ∀ i, i < sn → sf i = sg i) (hB : ∀ i, i < nA → bal i = bal2 i) (hL : ∀ i, i < ln → lf i = lg i) (hR : ∀ i, i < rn → rf i = rf2 i) : FEq (xPerf 4 x nA ac cl vl rf rn (sf, sn, pk, gs, en, an) (bal, σ, kn, lf, ln)).1 (xPerf 4 x nA ac cl vl rf2 rn (sg, sn, pk, gs, en, an) (bal2, σ, kn, lg, ln)).1 ∧ SEq nA (xPerf 4 x nA ac cl vl rf rn (sf, sn, pk, gs, en, an) (bal, σ, kn, lf, ln)).2 (xPerf 4 x nA ac cl vl rf2 rn (sg, sn, pk, gs, en, an) (bal2, σ, kn, lg, ln)).2 := by
  have hS : SEq nA (bal, σ, kn, lf, ln) (bal2, σ, kn, lg, ln) := ⟨hB, rfl, rfl, rfl, hL⟩
  simp only [xPerf]
  have e0 : sf (sn - 1) = sg (sn - 1) := hF _ (by omega)
  have e2 : sf (sn - 1 - x.toNatClampNeg) = sg (sn - 1 - x.toNatClampNeg) := hF _ (by have := h3 (by decide); omega)
  exact ⟨⟨rfl, ag_upd (ag_upd hF e2) e0⟩, hS⟩
theorem xPerf_c5 {x : Int32} {nA ac : Nat} {cl vl : Int32} {rf rf2 : Nat → Int32} {rn : Nat} {sf sg : Nat → Int32} {sn pk gs : Nat} {en an : Int32} {bal bal2 : Nat → Int32} {σ : Int64 → Int32} {kn : Nat} {lf lg : Nat → Int32} {ln : Nat} (hnd : 2 ≤ sn) (h3 : 5 = 3 ∨ 5 = 4 → x.toNatClampNeg < sn) (hnA : nA < 2 ^ 31) (hrn : rn < 2 ^ 31) (hF : ∀ i, i < sn → sf i = sg i) (hB : ∀ i, i < nA → bal i = bal2 i) (hL : ∀ i, i < ln → lf i = lg i) (hR : ∀ i, i < rn → rf i = rf2 i) : FEq (xPerf 5 x nA ac cl vl rf rn (sf, sn, pk, gs, en, an) (bal, σ, kn, lf, ln)).1 (xPerf 5 x nA ac cl vl rf2 rn (sg, sn, pk, gs, en, an) (bal2, σ, kn, lg, ln)).1 ∧ SEq nA (xPerf 5 x nA ac cl vl rf rn (sf, sn, pk, gs, en, an) (bal, σ, kn, lf, ln)).2 (xPerf 5 x nA ac cl vl rf2 rn (sg, sn, pk, gs, en, an) (bal2, σ, kn, lg, ln)).2 := by
  have hS : SEq nA (bal, σ, kn, lf, ln) (bal2, σ, kn, lg, ln) := ⟨hB, rfl, rfl, rfl, hL⟩
  simp only [xPerf]
  have e0 : sf (sn - 1) = sg (sn - 1) := hF _ (by omega)
  have e1 : sf (sn - 1 - 1) = sg (sn - 1 - 1) := hF _ (by omega)
  exact ⟨⟨rfl, ag_push (ag_dn hF (Nat.le_trans (Nat.sub_le _ _) (Nat.sub_le _ _))) (by rw [e0, e1])⟩, hS⟩
theorem xPerf_c6 {x : Int32} {nA ac : Nat} {cl vl : Int32} {rf rf2 : Nat → Int32} {rn : Nat} {sf sg : Nat → Int32} {sn pk gs : Nat} {en an : Int32} {bal bal2 : Nat → Int32} {σ : Int64 → Int32} {kn : Nat} {lf lg : Nat → Int32} {ln : Nat} (hnd : 2 ≤ sn) (h3 : 6 = 3 ∨ 6 = 4 → x.toNatClampNeg < sn) (hnA : nA < 2 ^ 31) (hrn : rn < 2 ^ 31) (hF : ∀ i, i < sn → sf i = sg i) (hB : ∀ i, i < nA → bal i = bal2 i) (hL : ∀ i, i < ln → lf i = lg i) (hR : ∀ i, i < rn → rf i = rf2 i) : FEq (xPerf 6 x nA ac cl vl rf rn (sf, sn, pk, gs, en, an) (bal, σ, kn, lf, ln)).1 (xPerf 6 x nA ac cl vl rf2 rn (sg, sn, pk, gs, en, an) (bal2, σ, kn, lg, ln)).1 ∧ SEq nA (xPerf 6 x nA ac cl vl rf rn (sf, sn, pk, gs, en, an) (bal, σ, kn, lf, ln)).2 (xPerf 6 x nA ac cl vl rf2 rn (sg, sn, pk, gs, en, an) (bal2, σ, kn, lg, ln)).2 := by
  have hS : SEq nA (bal, σ, kn, lf, ln) (bal2, σ, kn, lg, ln) := ⟨hB, rfl, rfl, rfl, hL⟩
  simp only [xPerf]
  have e0 : sf (sn - 1) = sg (sn - 1) := hF _ (by omega)
  have e1 : sf (sn - 1 - 1) = sg (sn - 1 - 1) := hF _ (by omega)
  exact ⟨⟨rfl, ag_push (ag_dn hF (Nat.le_trans (Nat.sub_le _ _) (Nat.sub_le _ _))) (by rw [e0, e1])⟩, hS⟩
theorem xPerf_c7 {x : Int32} {nA ac : Nat} {cl vl : Int32} {rf rf2 : Nat → Int32} {rn : Nat} {sf sg : Nat → Int32} {sn pk gs : Nat} {en an : Int32} {bal bal2 : Nat → Int32} {σ : Int64 → Int32} {kn : Nat} {lf lg : Nat → Int32} {ln : Nat} (hnd : 2 ≤ sn) (h3 : 7 = 3 ∨ 7 = 4 → x.toNatClampNeg < sn) (hnA : nA < 2 ^ 31) (hrn : rn < 2 ^ 31) (hF : ∀ i, i < sn → sf i = sg i) (hB : ∀ i, i < nA → bal i = bal2 i) (hL : ∀ i, i < ln → lf i = lg i) (hR : ∀ i, i < rn → rf i = rf2 i) : FEq (xPerf 7 x nA ac cl vl rf rn (sf, sn, pk, gs, en, an) (bal, σ, kn, lf, ln)).1 (xPerf 7 x nA ac cl vl rf2 rn (sg, sn, pk, gs, en, an) (bal2, σ, kn, lg, ln)).1 ∧ SEq nA (xPerf 7 x nA ac cl vl rf rn (sf, sn, pk, gs, en, an) (bal, σ, kn, lf, ln)).2 (xPerf 7 x nA ac cl vl rf2 rn (sg, sn, pk, gs, en, an) (bal2, σ, kn, lg, ln)).2 := by
  have hS : SEq nA (bal, σ, kn, lf, ln) (bal2, σ, kn, lg, ln) := ⟨hB, rfl, rfl, rfl, hL⟩
  simp only [xPerf]
  have e0 : sf (sn - 1) = sg (sn - 1) := hF _ (by omega)
  have e1 : sf (sn - 1 - 1) = sg (sn - 1 - 1) := hF _ (by omega)
  exact ⟨⟨rfl, ag_push (ag_dn hF (Nat.le_trans (Nat.sub_le _ _) (Nat.sub_le _ _))) (by rw [e0, e1])⟩, hS⟩
theorem xPerf_c8 {x : Int32} {nA ac : Nat} {cl vl : Int32} {rf rf2 : Nat → Int32} {rn : Nat} {sf sg : Nat → Int32} {sn pk gs : Nat} {en an : Int32} {bal bal2 : Nat → Int32} {σ : Int64 → Int32} {kn : Nat} {lf lg : Nat → Int32} {ln : Nat} (hnd : 2 ≤ sn) (h3 : 8 = 3 ∨ 8 = 4 → x.toNatClampNeg < sn) (hnA : nA < 2 ^ 31) (hrn : rn < 2 ^ 31) (hF : ∀ i, i < sn → sf i = sg i) (hB : ∀ i, i < nA → bal i = bal2 i) (hL : ∀ i, i < ln → lf i = lg i) (hR : ∀ i, i < rn → rf i = rf2 i) : FEq (xPerf 8 x nA ac cl vl rf rn (sf, sn, pk, gs, en, an) (bal, σ, kn, lf, ln)).1 (xPerf 8 x nA ac cl vl rf2 rn (sg, sn, pk, gs, en, an) (bal2, σ, kn, lg, ln)).1 ∧ SEq nA (xPerf 8 x nA ac cl vl rf rn (sf, sn, pk, gs, en, an) (bal, σ, kn, lf, ln)).2 (xPerf 8 x nA ac cl vl rf2 rn (sg, sn, pk, gs, en, an) (bal2, σ, kn, lg, ln)).2 := by
  have hS : SEq nA (bal, σ, kn, lf, ln) (bal2, σ, kn, lg, ln) := ⟨hB, rfl, rfl, rfl, hL⟩
  simp only [xPerf]
  have e0 : sf (sn - 1) = sg (sn - 1) := hF _ (by omega)
  have e1 : sf (sn - 1 - 1) = sg (sn - 1 - 1) := hF _ (by omega)
  exact ⟨⟨rfl, ag_push (ag_dn hF (Nat.le_trans (Nat.sub_le _ _) (Nat.sub_le _ _))) (by rw [e0, e1])⟩, hS⟩
theorem xPerf_c9 {x : Int32} {nA ac : Nat} {cl vl : Int32} {rf rf2 : Nat → Int32} {rn : Nat} {sf sg : Nat → Int32} {sn pk gs : Nat} {en an : Int32} {bal bal2 : Nat → Int32} {σ : Int64 → Int32} {kn : Nat} {lf lg : Nat → Int32} {ln : Nat} (hnd : 2 ≤ sn) (h3 : 9 = 3 ∨ 9 = 4 → x.toNatClampNeg < sn) (hnA : nA < 2 ^ 31) (hrn : rn < 2 ^ 31) (hF : ∀ i, i < sn → sf i = sg i) (hB : ∀ i, i < nA → bal i = bal2 i) (hL : ∀ i, i < ln → lf i = lg i) (hR : ∀ i, i < rn → rf i = rf2 i) : FEq (xPerf 9 x nA ac cl vl rf rn (sf, sn, pk, gs, en, an) (bal, σ, kn, lf, ln)).1 (xPerf 9 x nA ac cl vl rf2 rn (sg, sn, pk, gs, en, an) (bal2, σ, kn, lg, ln)).1 ∧ SEq nA (xPerf 9 x nA ac cl vl rf rn (sf, sn, pk, gs, en, an) (bal, σ, kn, lf, ln)).2 (xPerf 9 x nA ac cl vl rf2 rn (sg, sn, pk, gs, en, an) (bal2, σ, kn, lg, ln)).2 := by
  have hS : SEq nA (bal, σ, kn, lf, ln) (bal2, σ, kn, lg, ln) := ⟨hB, rfl, rfl, rfl, hL⟩
  simp only [xPerf]
  have e0 : sf (sn - 1) = sg (sn - 1) := hF _ (by omega)
  have e1 : sf (sn - 1 - 1) = sg (sn - 1 - 1) := hF _ (by omega)
  exact ⟨⟨rfl, ag_push (ag_dn hF (Nat.le_trans (Nat.sub_le _ _) (Nat.sub_le _ _))) (by rw [e0, e1])⟩, hS⟩
theorem xPerf_c10 {x : Int32} {nA ac : Nat} {cl vl : Int32} {rf rf2 : Nat → Int32} {rn : Nat} {sf sg : Nat → Int32} {sn pk gs : Nat} {en an : Int32} {bal bal2 : Nat → Int32} {σ : Int64 → Int32} {kn : Nat} {lf lg : Nat → Int32} {ln : Nat} (hnd : 2 ≤ sn) (h3 : 10 = 3 ∨ 10 = 4 → x.toNatClampNeg < sn) (hnA : nA < 2 ^ 31) (hrn : rn < 2 ^ 31) (hF : ∀ i, i < sn → sf i = sg i) (hB : ∀ i, i < nA → bal i = bal2 i) (hL : ∀ i, i < ln → lf i = lg i) (hR : ∀ i, i < rn → rf i = rf2 i) : FEq (xPerf 10 x nA ac cl vl rf rn (sf, sn, pk, gs, en, an) (bal, σ, kn, lf, ln)).1 (xPerf 10 x nA ac cl vl rf2 rn (sg, sn, pk, gs, en, an) (bal2, σ, kn, lg, ln)).1 ∧ SEq nA (xPerf 10 x nA ac cl vl rf rn (sf, sn, pk, gs, en, an) (bal, σ, kn, lf, ln)).2 (xPerf 10 x nA ac cl vl rf2 rn (sg, sn, pk, gs, en, an) (bal2, σ, kn, lg, ln)).2 := by
  have hS : SEq nA (bal, σ, kn, lf, ln) (bal2, σ, kn, lg, ln) := ⟨hB, rfl, rfl, rfl, hL⟩
  simp only [xPerf]
  have e0 : sf (sn - 1) = sg (sn - 1) := hF _ (by omega)
  have e1 : sf (sn - 1 - 1) = sg (sn - 1 - 1) := hF _ (by omega)
  exact ⟨⟨rfl, ag_push (ag_dn hF (Nat.le_trans (Nat.sub_le _ _) (Nat.sub_le _ _))) (by rw [e0, e1])⟩, hS⟩
theorem xPerf_c11 {x : Int32} {nA ac : Nat} {cl vl : Int32} {rf rf2 : Nat → Int32} {rn : Nat} {sf sg : Nat → Int32} {sn pk gs : Nat} {en an : Int32} {bal bal2 : Nat → Int32} {σ : Int64 → Int32} {kn : Nat} {lf lg : Nat → Int32} {ln : Nat} (hnd : 2 ≤ sn) (h3 : 11 = 3 ∨ 11 = 4 → x.toNatClampNeg < sn) (hnA : nA < 2 ^ 31) (hrn : rn < 2 ^ 31) (hF : ∀ i, i < sn → sf i = sg i) (hB : ∀ i, i < nA → bal i = bal2 i) (hL : ∀ i, i < ln → lf i = lg i) (hR : ∀ i, i < rn → rf i = rf2 i) : FEq (xPerf 11 x nA ac cl vl rf rn (sf, sn, pk, gs, en, an) (bal, σ, kn, lf, ln)).1 (xPerf 11 x nA ac cl vl rf2 rn (sg, sn, pk, gs, en, an) (bal2, σ, kn, lg, ln)).1 ∧ SEq nA (xPerf 11 x nA ac cl vl rf rn (sf, sn, pk, gs, en, an) (bal, σ, kn, lf, ln)).2 (xPerf 11 x nA ac cl vl rf2 rn (sg, sn, pk, gs, en, an) (bal2, σ, kn, lg, ln)).2 := by
  have hS : SEq nA (bal, σ, kn, lf, ln) (bal2, σ, kn, lg, ln) := ⟨hB, rfl, rfl, rfl, hL⟩
  simp only [xPerf]
  have e0 : sf (sn - 1) = sg (sn - 1) := hF _ (by omega)
  have e1 : sf (sn - 1 - 1) = sg (sn - 1 - 1) := hF _ (by omega)
  exact ⟨⟨rfl, ag_push (ag_dn hF (Nat.le_trans (Nat.sub_le _ _) (Nat.sub_le _ _))) (by rw [e0, e1])⟩, hS⟩
theorem xPerf_c12 {x : Int32} {nA ac : Nat} {cl vl : Int32} {rf rf2 : Nat → Int32} {rn : Nat} {sf sg : Nat → Int32} {sn pk gs : Nat} {en an : Int32} {bal bal2 : Nat → Int32} {σ : Int64 → Int32} {kn : Nat} {lf lg : Nat → Int32} {ln : Nat} (hnd : 1 ≤ sn) (h3 : 12 = 3 ∨ 12 = 4 → x.toNatClampNeg < sn) (hnA : nA < 2 ^ 31) (hrn : rn < 2 ^ 31) (hF : ∀ i, i < sn → sf i = sg i) (hB : ∀ i, i < nA → bal i = bal2 i) (hL : ∀ i, i < ln → lf i = lg i) (hR : ∀ i, i < rn → rf i = rf2 i) : FEq (xPerf 12 x nA ac cl vl rf rn (sf, sn, pk, gs, en, an) (bal, σ, kn, lf, ln)).1 (xPerf 12 x nA ac cl vl rf2 rn (sg, sn, pk, gs, en, an) (bal2, σ, kn, lg, ln)).1 ∧ SEq nA (xPerf 12 x nA ac cl vl rf rn (sf, sn, pk, gs, en, an) (bal, σ, kn, lf, ln)).2 (xPerf 12 x nA ac cl vl rf2 rn (sg, sn, pk, gs, en, an) (bal2, σ, kn, lg, ln)).2 := by
  have hS : SEq nA (bal, σ, kn, lf, ln) (bal2, σ, kn, lg, ln) := ⟨hB, rfl, rfl, rfl, hL⟩
  simp only [xPerf]
  have e0 : sf (sn - 1) = sg (sn - 1) := hF _ (by omega)
  exact ⟨⟨rfl, ag_push (ag_dn hF (Nat.sub_le _ _)) (by simp only [e0])⟩, hS⟩
theorem xPerf_c13 {x : Int32} {nA ac : Nat} {cl vl : Int32} {rf rf2 : Nat → Int32} {rn : Nat} {sf sg : Nat → Int32} {sn pk gs : Nat} {en an : Int32} {bal bal2 : Nat → Int32} {σ : Int64 → Int32} {kn : Nat} {lf lg : Nat → Int32} {ln : Nat} (hnd : 2 ≤ sn) (h3 : 13 = 3 ∨ 13 = 4 → x.toNatClampNeg < sn) (hnA : nA < 2 ^ 31) (hrn : rn < 2 ^ 31) (hF : ∀ i, i < sn → sf i = sg i) (hB : ∀ i, i < nA → bal i = bal2 i) (hL : ∀ i, i < ln → lf i = lg i) (hR : ∀ i, i < rn → rf i = rf2 i) : FEq (xPerf 13 x nA ac cl vl rf rn (sf, sn, pk, gs, en, an) (bal, σ, kn, lf, ln)).1 (xPerf 13 x nA ac cl vl rf2 rn (sg, sn, pk, gs, en, an) (bal2, σ, kn, lg, ln)).1 ∧ SEq nA (xPerf 13 x nA ac cl vl rf rn (sf, sn, pk, gs, en, an) (bal, σ, kn, lf, ln)).2 (xPerf 13 x nA ac cl vl rf2 rn (sg, sn, pk, gs, en, an) (bal2, σ, kn, lg, ln)).2 := by
  have hS : SEq nA (bal, σ, kn, lf, ln) (bal2, σ, kn, lg, ln) := ⟨hB, rfl, rfl, rfl, hL⟩
  simp only [xPerf]
  have e0 : sf (sn - 1) = sg (sn - 1) := hF _ (by omega)
  have e1 : sf (sn - 1 - 1) = sg (sn - 1 - 1) := hF _ (by omega)
  exact ⟨⟨rfl, ag_push (ag_dn hF (Nat.le_trans (Nat.sub_le _ _) (Nat.sub_le _ _))) (by rw [e0, e1])⟩, hS⟩
theorem xPerf_c14 {x : Int32} {nA ac : Nat} {cl vl : Int32} {rf rf2 : Nat → Int32} {rn : Nat} {sf sg : Nat → Int32} {sn pk gs : Nat} {en an : Int32} {bal bal2 : Nat → Int32} {σ : Int64 → Int32} {kn : Nat} {lf lg : Nat → Int32} {ln : Nat} (hnd : 2 ≤ sn) (h3 : 14 = 3 ∨ 14 = 4 → x.toNatClampNeg < sn) (hnA : nA < 2 ^ 31) (hrn : rn < 2 ^ 31) (hF : ∀ i, i < sn → sf i = sg i) (hB : ∀ i, i < nA → bal i = bal2 i) (hL : ∀ i, i < ln → lf i = lg i) (hR : ∀ i, i < rn → rf i = rf2 i) : FEq (xPerf 14 x nA ac cl vl rf rn (sf, sn, pk, gs, en, an) (bal, σ, kn, lf, ln)).1 (xPerf 14 x nA ac cl vl rf2 rn (sg, sn, pk, gs, en, an) (bal2, σ, kn, lg, ln)).1 ∧ SEq nA (xPerf 14 x nA ac cl vl rf rn (sf, sn, pk, gs, en, an) (bal, σ, kn, lf, ln)).2 (xPerf 14 x nA ac cl vl rf2 rn (sg, sn, pk, gs, en, an) (bal2, σ, kn, lg, ln)).2 := by
  have hS : SEq nA (bal, σ, kn, lf, ln) (bal2, σ, kn, lg, ln) := ⟨hB, rfl, rfl, rfl, hL⟩
  simp only [xPerf]
  have e0 : sf (sn - 1) = sg (sn - 1) := hF _ (by omega)
  have e1 : sf (sn - 1 - 1) = sg (sn - 1 - 1) := hF _ (by omega)
  exact ⟨⟨rfl, ag_push (ag_dn hF (Nat.le_trans (Nat.sub_le _ _) (Nat.sub_le _ _))) (by rw [e0, e1])⟩, hS⟩
theorem xPerf_c15 {x : Int32} {nA ac : Nat} {cl vl : Int32} {rf rf2 : Nat → Int32} {rn : Nat} {sf sg : Nat → Int32} {sn pk gs : Nat} {en an : Int32} {bal bal2 : Nat → Int32} {σ : Int64 → Int32} {kn : Nat} {lf lg : Nat → Int32} {ln : Nat} (hnd : 2 ≤ sn) (h3 : 15 = 3 ∨ 15 = 4 → x.toNatClampNeg < sn) (hnA : nA < 2 ^ 31) (hrn : rn < 2 ^ 31) (hF : ∀ i, i < sn → sf i = sg i) (hB : ∀ i, i < nA → bal i = bal2 i) (hL : ∀ i, i < ln → lf i = lg i) (hR : ∀ i, i < rn → rf i = rf2 i) : FEq (xPerf 15 x nA ac cl vl rf rn (sf, sn, pk, gs, en, an) (bal, σ, kn, lf, ln)).1 (xPerf 15 x nA ac cl vl rf2 rn (sg, sn, pk, gs, en, an) (bal2, σ, kn, lg, ln)).1 ∧ SEq nA (xPerf 15 x nA ac cl vl rf rn (sf, sn, pk, gs, en, an) (bal, σ, kn, lf, ln)).2 (xPerf 15 x nA ac cl vl rf2 rn (sg, sn, pk, gs, en, an) (bal2, σ, kn, lg, ln)).2 := by
  have hS : SEq nA (bal, σ, kn, lf, ln) (bal2, σ, kn, lg, ln) := ⟨hB, rfl, rfl, rfl, hL⟩
  simp only [xPerf]
  have e0 : sf (sn - 1) = sg (sn - 1) := hF _ (by omega)
  have e1 : sf (sn - 1 - 1) = sg (sn - 1 - 1) := hF _ (by omega)
  exact ⟨⟨rfl, ag_push (ag_dn hF (Nat.le_trans (Nat.sub_le _ _) (Nat.sub_le _ _))) (by rw [e0, e1])⟩, hS⟩
theorem xPerf_c16 {x : Int32} {nA ac : Nat} {cl vl : Int32} {rf rf2 : Nat → Int32} {rn : Nat} {sf sg : Nat → Int32} {sn pk gs : Nat} {en an : Int32} {bal bal2 : Nat → Int32} {σ : Int64 → Int32} {kn : Nat} {lf lg : Nat → Int32} {ln : Nat} (hnd : 0 ≤ sn) (h3 : 16 = 3 ∨ 16 = 4 → x.toNatClampNeg < sn) (hnA : nA < 2 ^ 31) (hrn : rn < 2 ^ 31) (hF : ∀ i, i < sn → sf i = sg i) (hB : ∀ i, i < nA → bal i = bal2 i) (hL : ∀ i, i < ln → lf i = lg i) (hR : ∀ i, i < rn → rf i = rf2 i) : FEq (xPerf 16 x nA ac cl vl rf rn (sf, sn, pk, gs, en, an) (bal, σ, kn, lf, ln)).1 (xPerf 16 x nA ac cl vl rf2 rn (sg, sn, pk, gs, en, an) (bal2, σ, kn, lg, ln)).1 ∧ SEq nA (xPerf 16 x nA ac cl vl rf rn (sf, sn, pk, gs, en, an) (bal, σ, kn, lf, ln)).2 (xPerf 16 x nA ac cl vl rf2 rn (sg, sn, pk, gs, en, an) (bal2, σ, kn, lg, ln)).2 := by
  have hS : SEq nA (bal, σ, kn, lf, ln) (bal2, σ, kn, lg, ln) := ⟨hB, rfl, rfl, rfl, hL⟩
  simp only [xPerf]
  exact ⟨⟨rfl, hF⟩, hS⟩
theorem xPerf_c17 {x : Int32} {nA ac : Nat} {cl vl : Int32} {rf rf2 : Nat → Int32} {rn : Nat} {sf sg : Nat → Int32} {sn pk gs : Nat} {en an : Int32} {bal bal2 : Nat → Int32} {σ : Int64 → Int32} {kn : Nat} {lf lg : Nat → Int32} {ln : Nat} (hnd : 1 ≤ sn) (h3 : 17 = 3 ∨ 17 = 4 → x.toNatClampNeg < sn) (hnA : nA < 2 ^ 31) (hrn : rn < 2 ^ 31) (hF : ∀ i, i < sn → sf i = sg i) (hB : ∀ i, i < nA → bal i = bal2 i) (hL : ∀ i, i < ln → lf i = lg i) (hR : ∀ i, i < rn → rf i = rf2 i) : FEq (xPerf 17 x nA ac cl vl rf rn (sf, sn, pk, gs, en, an) (bal, σ, kn, lf, ln)).1 (xPerf 17 x nA ac cl vl rf2 rn (sg, sn, pk, gs, en, an) (bal2, σ, kn, lg, ln)).1 ∧ SEq nA (xPerf 17 x nA ac cl vl rf rn (sf, sn, pk, gs, en, an) (bal, σ, kn, lf, ln)).2 (xPerf 17 x nA ac cl vl rf2 rn (sg, sn, pk, gs, en, an) (bal2, σ, kn, lg, ln)).2 := by
  have hS : SEq nA (bal, σ, kn, lf, ln) (bal2, σ, kn, lg, ln) := ⟨hB, rfl, rfl, rfl, hL⟩
  simp only [xPerf]
  have e0 : sf (sn - 1) = sg (sn - 1) := hF _ (by omega)
  exact ⟨⟨(by show (sn - 1, (if sf (sn - 1) = 0 then pk else x.toNatClampNeg), gs, en, an) = _; rw [e0]), ag_dn hF (Nat.sub_le _ _)⟩, hS⟩
theorem xPerf_c18 {x : Int32} {nA ac : Nat} {cl vl : Int32} {rf rf2 : Nat → Int32} {rn : Nat} {sf sg : Nat → Int32} {sn pk gs : Nat} {en an : Int32} {bal bal2 : Nat → Int32} {σ : Int64 → Int32} {kn : Nat} {lf lg : Nat → Int32} {ln : Nat} (hnd : 1 ≤ sn) (h3 : 18 = 3 ∨ 18 = 4 → x.toNatClampNeg < sn) (hnA : nA < 2 ^ 31) (hrn : rn < 2 ^ 31) (hF : ∀ i, i < sn → sf i = sg i) (hB : ∀ i, i < nA → bal i = bal2 i) (hL : ∀ i, i < ln → lf i = lg i) (hR : ∀ i, i < rn → rf i = rf2 i) : FEq (xPerf 18 x nA ac cl vl rf rn (sf, sn, pk, gs, en, an) (bal, σ, kn, lf, ln)).1 (xPerf 18 x nA ac cl vl rf2 rn (sg, sn, pk, gs, en, an) (bal2, σ, kn, lg, ln)).1 ∧ SEq nA (xPerf 18 x nA ac cl vl rf rn (sf, sn, pk, gs, en, an) (bal, σ, kn, lf, ln)).2 (xPerf 18 x nA ac cl vl rf2 rn (sg, sn, pk, gs, en, an) (bal2, σ, kn, lg, ln)).2 := by
  have hS : SEq nA (bal, σ, kn, lf, ln) (bal2, σ, kn, lg, ln) := ⟨hB, rfl, rfl, rfl, hL⟩
  simp only [xPerf]
  have e0 : sf (sn - 1) = sg (sn - 1) := hF _ (by omega)
  exact ⟨⟨rfl, ag_push (ag_dn hF (Nat.sub_le _ _)) (by simp only [e0])⟩, hS⟩
theorem xPerf_c19 {x : Int32} {nA ac : Nat} {cl vl : Int32} {rf rf2 : Nat → Int32} {rn : Nat} {sf sg : Nat → Int32} {sn pk gs : Nat} {en an : Int32} {bal bal2 : Nat → Int32} {σ : Int64 → Int32} {kn : Nat} {lf lg : Nat → Int32} {ln : Nat} (hnd : 2 ≤ sn) (h3 : 19 = 3 ∨ 19 = 4 → x.toNatClampNeg < sn) (hnA : nA < 2 ^ 31) (hrn : rn < 2 ^ 31) (hF : ∀ i, i < sn → sf i = sg i) (hB : ∀ i, i < nA → bal i = bal2 i) (hL : ∀ i, i < ln → lf i = lg i) (hR : ∀ i, i < rn → rf i = rf2 i) : FEq (xPerf 19 x nA ac cl vl rf rn (sf, sn, pk, gs, en, an) (bal, σ, kn, lf, ln)).1 (xPerf 19 x nA ac cl vl rf2 rn (sg, sn, pk, gs, en, an) (bal2, σ, kn, lg, ln)).1 ∧ SEq nA (xPerf 19 x nA ac cl vl rf rn (sf, sn, pk, gs, en, an) (bal, σ, kn, lf, ln)).2 (xPerf 19 x nA ac cl vl rf2 rn (sg, sn, pk, gs, en, an) (bal2, σ, kn, lg, ln)).2 := by
  have hS : SEq nA (bal, σ, kn, lf, ln) (bal2, σ, kn, lg, ln) := ⟨hB, rfl, rfl, rfl, hL⟩
  simp only [xPerf]
  have e0 : sf (sn - 1) = sg (sn - 1) := hF _ (by omega)
  have e1 : sf (sn - 1 - 1) = sg (sn - 1 - 1) := hF _ (by omega)
  rw [e0, e1]
  split
  · exact ⟨⟨rfl, ag_dn hF (Nat.le_trans (Nat.sub_le _ _) (Nat.sub_le _ _))⟩, hS⟩
  · exact ⟨⟨rfl, ag_dn hF (Nat.le_trans (Nat.sub_le _ _) (Nat.sub_le _ _))⟩, hB, rfl, rfl, rfl, hL⟩
theorem xPerf_c20 {x : Int32} {nA ac : Nat} {cl vl : Int32} {rf rf2 : Nat → Int32} {rn : Nat} {sf sg : Nat → Int32} {sn pk gs : Nat} {en an : Int32} {bal bal2 : Nat → Int32} {σ : Int64 → Int32} {kn : Nat} {lf lg : Nat → Int32} {ln : Nat} (hnd : 1 ≤ sn) (h3 : 20 = 3 ∨ 20 = 4 → x.toNatClampNeg < sn) (hnA : nA < 2 ^ 31) (hrn : rn < 2 ^ 31) (hF : ∀ i, i < sn → sf i = sg i) (hB : ∀ i, i < nA → bal i = bal2 i) (hL : ∀ i, i < ln → lf i = lg i) (hR : ∀ i, i < rn → rf i = rf2 i) : FEq (xPerf 20 x nA ac cl vl rf rn (sf, sn, pk, gs, en, an) (bal, σ, kn, lf, ln)).1 (xPerf 20 x nA ac cl vl rf2 rn (sg, sn, pk, gs, en, an) (bal2, σ, kn, lg, ln)).1 ∧ SEq nA (xPerf 20 x nA ac cl vl rf rn (sf, sn, pk, gs, en, an) (bal, σ, kn, lf, ln)).2 (xPerf 20 x nA ac cl vl rf2 rn (sg, sn, pk, gs, en, an) (bal2, σ, kn, lg, ln)).2 := by
  have hS : SEq nA (bal, σ, kn, lf, ln) (bal2, σ, kn, lg, ln) := ⟨hB, rfl, rfl, rfl, hL⟩
  simp only [xPerf]
  have e0 : sf (sn - 1) = sg (sn - 1) := hF _ (by omega)
  exact ⟨⟨rfl, ag_push (ag_dn hF (Nat.sub_le _ _)) (by simp only [e0]; exact ag_if (fun q => hR _ (xHas_ix q hrn).2))⟩, hS⟩
theorem xPerf_c21 {x : Int32} {nA ac : Nat} {cl vl : Int32} {rf rf2 : Nat → Int32} {rn : Nat} {sf sg : Nat → Int32} {sn pk gs : Nat} {en an : Int32} {bal bal2 : Nat → Int32} {σ : Int64 → Int32} {kn : Nat} {lf lg : Nat → Int32} {ln : Nat} (hnd : 0 ≤ sn) (h3 : 21 = 3 ∨ 21 = 4 → x.toNatClampNeg < sn) (hnA : nA < 2 ^ 31) (hrn : rn < 2 ^ 31) (hF : ∀ i, i < sn → sf i = sg i) (hB : ∀ i, i < nA → bal i = bal2 i) (hL : ∀ i, i < ln → lf i = lg i) (hR : ∀ i, i < rn → rf i = rf2 i) : FEq (xPerf 21 x nA ac cl vl rf rn (sf, sn, pk, gs, en, an) (bal, σ, kn, lf, ln)).1 (xPerf 21 x nA ac cl vl rf2 rn (sg, sn, pk, gs, en, an) (bal2, σ, kn, lg, ln)).1 ∧ SEq nA (xPerf 21 x nA ac cl vl rf rn (sf, sn, pk, gs, en, an) (bal, σ, kn, lf, ln)).2 (xPerf 21 x nA ac cl vl rf2 rn (sg, sn, pk, gs, en, an) (bal2, σ, kn, lg, ln)).2 := by
  have hS : SEq nA (bal, σ, kn, lf, ln) (bal2, σ, kn, lg, ln) := ⟨hB, rfl, rfl, rfl, hL⟩
  simp only [xPerf]
  exact ⟨⟨rfl, ag_push hF rfl⟩, hS⟩
theorem xPerf_c22 {x : Int32} {nA ac : Nat} {cl vl : Int32} {rf rf2 : Nat → Int32} {rn : Nat} {sf sg : Nat → Int32} {sn pk gs : Nat} {en an : Int32} {bal bal2 : Nat → Int32} {σ : Int64 → Int32} {kn : Nat} {lf lg : Nat → Int32} {ln : Nat} (hnd : 0 ≤ sn) (h3 : 22 = 3 ∨ 22 = 4 → x.toNatClampNeg < sn) (hnA : nA < 2 ^ 31) (hrn : rn < 2 ^ 31) (hF : ∀ i, i < sn → sf i = sg i) (hB : ∀ i, i < nA → bal i = bal2 i) (hL : ∀ i, i < ln → lf i = lg i) (hR : ∀ i, i < rn → rf i = rf2 i) : FEq (xPerf 22 x nA ac cl vl rf rn (sf, sn, pk, gs, en, an) (bal, σ, kn, lf, ln)).1 (xPerf 22 x nA ac cl vl rf2 rn (sg, sn, pk, gs, en, an) (bal2, σ, kn, lg, ln)).1 ∧ SEq nA (xPerf 22 x nA ac cl vl rf rn (sf, sn, pk, gs, en, an) (bal, σ, kn, lf, ln)).2 (xPerf 22 x nA ac cl vl rf2 rn (sg, sn, pk, gs, en, an) (bal2, σ, kn, lg, ln)).2 := by
  have hS : SEq nA (bal, σ, kn, lf, ln) (bal2, σ, kn, lg, ln) := ⟨hB, rfl, rfl, rfl, hL⟩
  simp only [xPerf]
  exact ⟨⟨rfl, ag_push hF rfl⟩, hS⟩
theorem xPerf_c23 {x : Int32} {nA ac : Nat} {cl vl : Int32} {rf rf2 : Nat → Int32} {rn : Nat} {sf sg : Nat → Int32} {sn pk gs : Nat} {en an : Int32} {bal bal2 : Nat → Int32} {σ : Int64 → Int32} {kn : Nat} {lf lg : Nat → Int32} {ln : Nat} (hnd : 0 ≤ sn) (h3 : 23 = 3 ∨ 23 = 4 → x.toNatClampNeg < sn) (hnA : nA < 2 ^ 31) (hrn : rn < 2 ^ 31) (hF : ∀ i, i < sn → sf i = sg i) (hB : ∀ i, i < nA → bal i = bal2 i) (hL : ∀ i, i < ln → lf i = lg i) (hR : ∀ i, i < rn → rf i = rf2 i) : FEq (xPerf 23 x nA ac cl vl rf rn (sf, sn, pk, gs, en, an) (bal, σ, kn, lf, ln)).1 (xPerf 23 x nA ac cl vl rf2 rn (sg, sn, pk, gs, en, an) (bal2, σ, kn, lg, ln)).1 ∧ SEq nA (xPerf 23 x nA ac cl vl rf rn (sf, sn, pk, gs, en, an) (bal, σ, kn, lf, ln)).2 (xPerf 23 x nA ac cl vl rf2 rn (sg, sn, pk, gs, en, an) (bal2, σ, kn, lg, ln)).2 := by
  have hS : SEq nA (bal, σ, kn, lf, ln) (bal2, σ, kn, lg, ln) := ⟨hB, rfl, rfl, rfl, hL⟩
  simp only [xPerf]
  exact ⟨⟨rfl, ag_push hF rfl⟩, hS⟩
theorem xPerf_c24 {x : Int32} {nA ac : Nat} {cl vl : Int32} {rf rf2 : Nat → Int32} {rn : Nat} {sf sg : Nat → Int32} {sn pk gs : Nat} {en an : Int32} {bal bal2 : Nat → Int32} {σ : Int64 → Int32} {kn : Nat} {lf lg : Nat → Int32} {ln : Nat} (hnd : 1 ≤ sn) (h3 : 24 = 3 ∨ 24 = 4 → x.toNatClampNeg < sn) (hnA : nA < 2 ^ 31) (hrn : rn < 2 ^ 31) (hF : ∀ i, i < sn → sf i = sg i) (hB : ∀ i, i < nA → bal i = bal2 i) (hL : ∀ i, i < ln → lf i = lg i) (hR : ∀ i, i < rn → rf i = rf2 i) : FEq (xPerf 24 x nA ac cl vl rf rn (sf, sn, pk, gs, en, an) (bal, σ, kn, lf, ln)).1 (xPerf 24 x nA ac cl vl rf2 rn (sg, sn, pk, gs, en, an) (bal2, σ, kn, lg, ln)).1 ∧ SEq nA (xPerf 24 x nA ac cl vl rf rn (sf, sn, pk, gs, en, an) (bal, σ, kn, lf, ln)).2 (xPerf 24 x nA ac cl vl rf2 rn (sg, sn, pk, gs, en, an) (bal2, σ, kn, lg, ln)).2 := by
  have hS : SEq nA (bal, σ, kn, lf, ln) (bal2, σ, kn, lg, ln) := ⟨hB, rfl, rfl, rfl, hL⟩
  simp only [xPerf]
  have e0 : sf (sn - 1) = sg (sn - 1) := hF _ (by omega)
  exact ⟨⟨rfl, ag_push (ag_dn hF (Nat.sub_le _ _)) (by simp only [e0]; exact ag_if (fun q => hB _ (xHas_ix q hnA).2))⟩, hS⟩
theorem xPerf_c25 {x : Int32} {nA ac : Nat} {cl vl : Int32} {rf rf2 : Nat → Int32} {rn : Nat} {sf sg : Nat → Int32} {sn pk gs : Nat} {en an : Int32} {bal bal2 : Nat → Int32} {σ : Int64 → Int32} {kn : Nat} {lf lg : Nat → Int32} {ln : Nat} (hnd : 1 ≤ sn) (h3 : 25 = 3 ∨ 25 = 4 → x.toNatClampNeg < sn) (hnA : nA < 2 ^ 31) (hrn : rn < 2 ^ 31) (hF : ∀ i, i < sn → sf i = sg i) (hB : ∀ i, i < nA → bal i = bal2 i) (hL : ∀ i, i < ln → lf i = lg i) (hR : ∀ i, i < rn → rf i = rf2 i) : FEq (xPerf 25 x nA ac cl vl rf rn (sf, sn, pk, gs, en, an) (bal, σ, kn, lf, ln)).1 (xPerf 25 x nA ac cl vl rf2 rn (sg, sn, pk, gs, en, an) (bal2, σ, kn, lg, ln)).1 ∧ SEq nA (xPerf 25 x nA ac cl vl rf rn (sf, sn, pk, gs, en, an) (bal, σ, kn, lf, ln)).2 (xPerf 25 x nA ac cl vl rf2 rn (sg, sn, pk, gs, en, an) (bal2, σ, kn, lg, ln)).2 := by
  have hS : SEq nA (bal, σ, kn, lf, ln) (bal2, σ, kn, lg, ln) := ⟨hB, rfl, rfl, rfl, hL⟩
  simp only [xPerf]
  have e0 : sf (sn - 1) = sg (sn - 1) := hF _ (by omega)
  refine ⟨⟨rfl, ag_dn hF (Nat.sub_le _ _)⟩, ?_⟩
  by_cases c : ln < 300
  · rw [if_pos c, if_pos c]; exact ⟨hB, rfl, rfl, rfl, ag_push hL e0⟩
  · rw [if_neg c, if_neg c]; exact hS
theorem xPerf_c26 {x : Int32} {nA ac : Nat} {cl vl : Int32} {rf rf2 : Nat → Int32} {rn : Nat} {sf sg : Nat → Int32} {sn pk gs : Nat} {en an : Int32} {bal bal2 : Nat → Int32} {σ : Int64 → Int32} {kn : Nat} {lf lg : Nat → Int32} {ln : Nat} (hnd : 1 ≤ sn) (h3 : 26 = 3 ∨ 26 = 4 → x.toNatClampNeg < sn) (hnA : nA < 2 ^ 31) (hrn : rn < 2 ^ 31) (hF : ∀ i, i < sn → sf i = sg i) (hB : ∀ i, i < nA → bal i = bal2 i) (hL : ∀ i, i < ln → lf i = lg i) (hR : ∀ i, i < rn → rf i = rf2 i) : FEq (xPerf 26 x nA ac cl vl rf rn (sf, sn, pk, gs, en, an) (bal, σ, kn, lf, ln)).1 (xPerf 26 x nA ac cl vl rf2 rn (sg, sn, pk, gs, en, an) (bal2, σ, kn, lg, ln)).1 ∧ SEq nA (xPerf 26 x nA ac cl vl rf rn (sf, sn, pk, gs, en, an) (bal, σ, kn, lf, ln)).2 (xPerf 26 x nA ac cl vl rf2 rn (sg, sn, pk, gs, en, an) (bal2, σ, kn, lg, ln)).2 := by
  have hS : SEq nA (bal, σ, kn, lf, ln) (bal2, σ, kn, lg, ln) := ⟨hB, rfl, rfl, rfl, hL⟩
  simp only [xPerf]
  have e0 : sf (sn - 1) = sg (sn - 1) := hF _ (by omega)
  exact ⟨⟨(by show (sn - 1, pk, gs, (0 : Int32), sf (sn - 1)) = _; rw [e0]), ag_dn hF (Nat.sub_le _ _)⟩, hS⟩
theorem xPerf_c28 {x : Int32} {nA ac : Nat} {cl vl : Int32} {rf rf2 : Nat → Int32} {rn : Nat} {sf sg : Nat → Int32} {sn pk gs : Nat} {en an : Int32} {bal bal2 : Nat → Int32} {σ : Int64 → Int32} {kn : Nat} {lf lg : Nat → Int32} {ln : Nat} (hnd : 0 ≤ sn) (h3 : 28 = 3 ∨ 28 = 4 → x.toNatClampNeg < sn) (hnA : nA < 2 ^ 31) (hrn : rn < 2 ^ 31) (hF : ∀ i, i < sn → sf i = sg i) (hB : ∀ i, i < nA → bal i = bal2 i) (hL : ∀ i, i < ln → lf i = lg i) (hR : ∀ i, i < rn → rf i = rf2 i) : FEq (xPerf 28 x nA ac cl vl rf rn (sf, sn, pk, gs, en, an) (bal, σ, kn, lf, ln)).1 (xPerf 28 x nA ac cl vl rf2 rn (sg, sn, pk, gs, en, an) (bal2, σ, kn, lg, ln)).1 ∧ SEq nA (xPerf 28 x nA ac cl vl rf rn (sf, sn, pk, gs, en, an) (bal, σ, kn, lf, ln)).2 (xPerf 28 x nA ac cl vl rf2 rn (sg, sn, pk, gs, en, an) (bal2, σ, kn, lg, ln)).2 := by
  have hS : SEq nA (bal, σ, kn, lf, ln) (bal2, σ, kn, lg, ln) := ⟨hB, rfl, rfl, rfl, hL⟩
  simp only [xPerf]
  exact ⟨⟨rfl, ag_push hF rfl⟩, hS⟩
theorem xPerf_c29 {x : Int32} {nA ac : Nat} {cl vl : Int32} {rf rf2 : Nat → Int32} {rn : Nat} {sf sg : Nat → Int32} {sn pk gs : Nat} {en an : Int32} {bal bal2 : Nat → Int32} {σ : Int64 → Int32} {kn : Nat} {lf lg : Nat → Int32} {ln : Nat} (hnd : 1 ≤ sn) (h3 : 29 = 3 ∨ 29 = 4 → x.toNatClampNeg < sn) (hnA : nA < 2 ^ 31) (hrn : rn < 2 ^ 31) (hF : ∀ i, i < sn → sf i = sg i) (hB : ∀ i, i < nA → bal i = bal2 i) (hL : ∀ i, i < ln → lf i = lg i) (hR : ∀ i, i < rn → rf i = rf2 i) : FEq (xPerf 29 x nA ac cl vl rf rn (sf, sn, pk, gs, en, an) (bal, σ, kn, lf, ln)).1 (xPerf 29 x nA ac cl vl rf2 rn (sg, sn, pk, gs, en, an) (bal2, σ, kn, lg, ln)).1 ∧ SEq nA (xPerf 29 x nA ac cl vl rf rn (sf, sn, pk, gs, en, an) (bal, σ, kn, lf, ln)).2 (xPerf 29 x nA ac cl vl rf2 rn (sg, sn, pk, gs, en, an) (bal2, σ, kn, lg, ln)).2 := by
  have hS : SEq nA (bal, σ, kn, lf, ln) (bal2, σ, kn, lg, ln) := ⟨hB, rfl, rfl, rfl, hL⟩
  simp only [xPerf]
  have e0 : sf (sn - 1) = sg (sn - 1) := hF _ (by omega)
  exact ⟨⟨(by show (sn - 1, pk, gs, (1 : Int32), sf (sn - 1)) = _; rw [e0]), ag_dn hF (Nat.sub_le _ _)⟩, hS⟩
theorem xPerf_congr {op : Nat} {x : Int32} {nA ac : Nat} {cl vl : Int32} {rf rf2 : Nat → Int32} {rn : Nat} {sf sg : Nat → Int32} {sn pk gs : Nat} {en an : Int32} {bal bal2 : Nat → Int32} {σ : Int64 → Int32} {kn : Nat} {lf lg : Nat → Int32} {ln : Nat} (hop : op < 30) (h27 : op ≠ 27) (hnd : xNd op ≤ sn) (h3 : op = 3 ∨ op = 4 → x.toNatClampNeg < sn) (hnA : nA < 2 ^ 31) (hrn : rn < 2 ^ 31) (hF : ∀ i, i < sn → sf i = sg i) (hB : ∀ i, i < nA → bal i = bal2 i) (hL : ∀ i, i < ln → lf i = lg i) (hR : ∀ i, i < rn → rf i = rf2 i) : FEq (xPerf op x nA ac cl vl rf rn (sf, sn, pk, gs, en, an) (bal, σ, kn, lf, ln)).1 (xPerf op x nA ac cl vl rf2 rn (sg, sn, pk, gs, en, an) (bal2, σ, kn, lg, ln)).1 ∧ SEq nA (xPerf op x nA ac cl vl rf rn (sf, sn, pk, gs, en, an) (bal, σ, kn, lf, ln)).2 (xPerf op x nA ac cl vl rf2 rn (sg, sn, pk, gs, en, an) (bal2, σ, kn, lg, ln)).2 := by
  rcases (show op = 0 ∨ op = 1 ∨ op = 2 ∨ op = 3 ∨ op = 4 ∨ op = 5 ∨ op = 6 ∨ op = 7 ∨ op = 8 ∨ op = 9 ∨ op = 10 ∨ op = 11 ∨ op = 12 ∨ op = 13 ∨ op = 14 ∨ op = 15 ∨ op = 16 ∨ op = 17 ∨ op = 18 ∨ op = 19 ∨ op = 20 ∨ op = 21 ∨ op = 22 ∨ op = 23 ∨ op = 24 ∨ op = 25 ∨ op = 26 ∨ op = 28 ∨ op = 29 by omega) with rfl | rfl | rfl | rfl | rfl | rfl | rfl | rfl | rfl | rfl | rfl | rfl | rfl | rfl | rfl | rfl | rfl | rfl | rfl | rfl | rfl | rfl | rfl | rfl | rfl | rfl | rfl | rfl | rfl
  · exact xPerf_c0 hnd h3 hnA hrn hF hB hL hR
  · exact xPerf_c1 hnd h3 hnA hrn hF hB hL hR
  · exact xPerf_c2 hnd h3 hnA hrn hF hB hL hR
  · exact xPerf_c3 hnd h3 hnA hrn hF hB hL hR
  · exact xPerf_c4 hnd h3 hnA hrn hF hB hL hR
  · exact xPerf_c5 hnd h3 hnA hrn hF hB hL hR
  · exact xPerf_c6 hnd h3 hnA hrn hF hB hL hR
  · exact xPerf_c7 hnd h3 hnA hrn hF hB hL hR
  · exact xPerf_c8 hnd h3 hnA hrn hF hB hL hR
  · exact xPerf_c9 hnd h3 hnA hrn hF hB hL hR
  · exact xPerf_c10 hnd h3 hnA hrn hF hB hL hR
  · exact xPerf_c11 hnd h3 hnA hrn hF hB hL hR
  · exact xPerf_c12 hnd h3 hnA hrn hF hB hL hR
  · exact xPerf_c13 hnd h3 hnA hrn hF hB hL hR
  · exact xPerf_c14 hnd h3 hnA hrn hF hB hL hR
  · exact xPerf_c15 hnd h3 hnA hrn hF hB hL hR
  · exact xPerf_c16 hnd h3 hnA hrn hF hB hL hR
  · exact xPerf_c17 hnd h3 hnA hrn hF hB hL hR
  · exact xPerf_c18 hnd h3 hnA hrn hF hB hL hR
  · exact xPerf_c19 hnd h3 hnA hrn hF hB hL hR
  · exact xPerf_c20 hnd h3 hnA hrn hF hB hL hR
  · exact xPerf_c21 hnd h3 hnA hrn hF hB hL hR
  · exact xPerf_c22 hnd h3 hnA hrn hF hB hL hR
  · exact xPerf_c23 hnd h3 hnA hrn hF hB hL hR
  · exact xPerf_c24 hnd h3 hnA hrn hF hB hL hR
  · exact xPerf_c25 hnd h3 hnA hrn hF hB hL hR
  · exact xPerf_c26 hnd h3 hnA hrn hF hB hL hR
  · exact xPerf_c28 hnd h3 hnA hrn hF hB hL hR
  · exact xPerf_c29 hnd h3 hnA hrn hF hB hL hR
set_option maxRecDepth 100000 in
set_option maxHeartbeats 2000000 in
/-- what an instruction keeps -/
theorem xPerf_inv {op : Nat} {x : Int32} {nA ac : Nat} {cl vl : Int32} {rf : Nat → Int32} {rn : Nat} {sf : Nat → Int32} {sn pk gs : Nat} {en an : Int32} {bal : Nat → Int32} {σ : Int64 → Int32} {kn : Nat} {lf : Nat → Int32} {ln : Nat}
    (hop : op < 30) (h27 : op ≠ 27) (hnd : xNd op ≤ sn) (hsn : sn ≤ 32) (hpsh : xPush op = true → sn < 32) (hpk : pk ≤ 160) (hx : op = 16 ∨ op = 17 → x.toNatClampNeg ≤ 160) (hln : ln ≤ 300) :
    (xPerf op x nA ac cl vl rf rn (sf, sn, pk, gs, en, an) (bal, σ, kn, lf, ln)).1.2.1 ≤ 32 ∧ (xPerf op x nA ac cl vl rf rn (sf, sn, pk, gs, en, an) (bal, σ, kn, lf, ln)).1.2.2.1 ≤ 160 ∧ (xPerf op x nA ac cl vl rf rn (sf, sn, pk, gs, en, an) (bal, σ, kn, lf, ln)).1.2.2.2.1 ≤ gs ∧
    (xPerf op x nA ac cl vl rf rn (sf, sn, pk, gs, en, an) (bal, σ, kn, lf, ln)).2.1 = bal ∧ ln ≤ (xPerf op x nA ac cl vl rf rn (sf, sn, pk, gs, en, an) (bal, σ, kn, lf, ln)).2.2.2.2.2 ∧ (xPerf op x nA ac cl vl rf rn (sf, sn, pk, gs, en, an) (bal, σ, kn, lf, ln)).2.2.2.2.2 ≤ 300 ∧
    ∀ i, i < ln → (xPerf op x nA ac cl vl rf rn (sf, sn, pk, gs, en, an) (bal, σ, kn, lf, ln)).2.2.2.2.1 i = lf i := by
  rcases (show op = 0 ∨ op = 1 ∨ op = 2 ∨ op = 3 ∨ op = 4 ∨ op = 5 ∨ op = 6 ∨ op = 7 ∨ op = 8 ∨ op = 9 ∨ op = 10 ∨ op = 11 ∨ op = 12 ∨ op = 13 ∨ op = 14 ∨ op = 15 ∨ op = 16 ∨ op = 17 ∨ op = 18 ∨ op = 19 ∨ op = 20 ∨ op = 21 ∨ op = 22 ∨ op = 23 ∨ op = 24 ∨ op = 25 ∨ op = 26 ∨ op = 28 ∨ op = 29 by omega) with rfl | rfl | rfl | rfl | rfl | rfl | rfl | rfl | rfl | rfl | rfl | rfl | rfl | rfl | rfl | rfl | rfl | rfl | rfl | rfl | rfl | rfl | rfl | rfl | rfl | rfl | rfl | rfl | rfl
  · have hnd : 0 ≤ sn := hnd
    exact ⟨by show sn ≤ 32; omega, hpk, Nat.le_refl _, rfl, Nat.le_refl _, hln, fun _ _ => rfl⟩
  · have hnd : 0 ≤ sn := hnd
    have hpsh : sn < 32 := hpsh rfl
    exact ⟨by show sn + 1 ≤ 32; omega, hpk, Nat.le_refl _, rfl, Nat.le_refl _, hln, fun _ _ => rfl⟩
  · have hnd : 1 ≤ sn := hnd
    exact ⟨by show sn - 1 ≤ 32; omega, hpk, Nat.le_refl _, rfl, Nat.le_refl _, hln, fun _ _ => rfl⟩
  · have hnd : 1 ≤ sn := hnd
    have hpsh : sn < 32 := hpsh rfl
    exact ⟨by show sn + 1 ≤ 32; omega, hpk, Nat.le_refl _, rfl, Nat.le_refl _, hln, fun _ _ => rfl⟩
  · have hnd : 1 ≤ sn := hnd
    exact ⟨by show sn ≤ 32; omega, hpk, Nat.le_refl _, rfl, Nat.le_refl _, hln, fun _ _ => rfl⟩
  · have hnd : 2 ≤ sn := hnd
    exact ⟨by show sn - 1 - 1 + 1 ≤ 32; omega, hpk, Nat.le_refl _, rfl, Nat.le_refl _, hln, fun _ _ => rfl⟩
  · have hnd : 2 ≤ sn := hnd
    exact ⟨by show sn - 1 - 1 + 1 ≤ 32; omega, hpk, Nat.le_refl _, rfl, Nat.le_refl _, hln, fun _ _ => rfl⟩
  · have hnd : 2 ≤ sn := hnd
    exact ⟨by show sn - 1 - 1 + 1 ≤ 32; omega, hpk, Nat.le_refl _, rfl, Nat.le_refl _, hln, fun _ _ => rfl⟩
  · have hnd : 2 ≤ sn := hnd
    exact ⟨by show sn - 1 - 1 + 1 ≤ 32; omega, hpk, Nat.le_refl _, rfl, Nat.le_refl _, hln, fun _ _ => rfl⟩
  · have hnd : 2 ≤ sn := hnd
    exact ⟨by show sn - 1 - 1 + 1 ≤ 32; omega, hpk, Nat.le_refl _, rfl, Nat.le_refl _, hln, fun _ _ => rfl⟩
  · have hnd : 2 ≤ sn := hnd
    exact ⟨by show sn - 1 - 1 + 1 ≤ 32; omega, hpk, Nat.le_refl _, rfl, Nat.le_refl _, hln, fun _ _ => rfl⟩
  · have hnd : 2 ≤ sn := hnd
    exact ⟨by show sn - 1 - 1 + 1 ≤ 32; omega, hpk, Nat.le_refl _, rfl, Nat.le_refl _, hln, fun _ _ => rfl⟩
  · have hnd : 1 ≤ sn := hnd
    exact ⟨by show sn - 1 + 1 ≤ 32; omega, hpk, Nat.le_refl _, rfl, Nat.le_refl _, hln, fun _ _ => rfl⟩
  · have hnd : 2 ≤ sn := hnd
    exact ⟨by show sn - 1 - 1 + 1 ≤ 32; omega, hpk, Nat.le_refl _, rfl, Nat.le_refl _, hln, fun _ _ => rfl⟩
  · have hnd : 2 ≤ sn := hnd
    exact ⟨by show sn - 1 - 1 + 1 ≤ 32; omega, hpk, Nat.le_refl _, rfl, Nat.le_refl _, hln, fun _ _ => rfl⟩
  · have hnd : 2 ≤ sn := hnd
    exact ⟨by show sn - 1 - 1 + 1 ≤ 32; omega, hpk, Nat.le_refl _, rfl, Nat.le_refl _, hln, fun _ _ => rfl⟩
  · have hnd : 0 ≤ sn := hnd
    have hx := hx (by decide)
    exact ⟨by show sn ≤ 32; omega, hx, Nat.le_refl _, rfl, Nat.le_refl _, hln, fun _ _ => rfl⟩
  · have hnd : 1 ≤ sn := hnd
    have hx := hx (by decide)
    exact ⟨by show sn - 1 ≤ 32; omega, (by show (if sf (sn - 1) = 0 then pk else x.toNatClampNeg) ≤ 160; split <;> omega), Nat.le_refl _, rfl, Nat.le_refl _, hln, fun _ _ => rfl⟩
  · have hnd : 1 ≤ sn := hnd
    exact ⟨by show sn - 1 + 1 ≤ 32; omega, hpk, Nat.le_refl _, rfl, Nat.le_refl _, hln, fun _ _ => rfl⟩
  · have hnd : 2 ≤ sn := hnd
    simp only [xPerf]
    split
    · exact ⟨by show sn - 1 - 1 ≤ 32; omega, hpk, Nat.zero_le _, rfl, Nat.le_refl _, hln, fun _ _ => rfl⟩
    · exact ⟨by show sn - 1 - 1 ≤ 32; omega, hpk, Nat.le_refl _, rfl, Nat.le_refl _, hln, fun _ _ => rfl⟩
  · have hnd : 1 ≤ sn := hnd
    exact ⟨by show sn - 1 + 1 ≤ 32; omega, hpk, Nat.le_refl _, rfl, Nat.le_refl _, hln, fun _ _ => rfl⟩
  · have hnd : 0 ≤ sn := hnd
    have hpsh : sn < 32 := hpsh rfl
    exact ⟨by show sn + 1 ≤ 32; omega, hpk, Nat.le_refl _, rfl, Nat.le_refl _, hln, fun _ _ => rfl⟩
  · have hnd : 0 ≤ sn := hnd
    have hpsh : sn < 32 := hpsh rfl
    exact ⟨by show sn + 1 ≤ 32; omega, hpk, Nat.le_refl _, rfl, Nat.le_refl _, hln, fun _ _ => rfl⟩
  · have hnd : 0 ≤ sn := hnd
    have hpsh : sn < 32 := hpsh rfl
    exact ⟨by show sn + 1 ≤ 32; omega, hpk, Nat.le_refl _, rfl, Nat.le_refl _, hln, fun _ _ => rfl⟩
  · have hnd : 1 ≤ sn := hnd
    exact ⟨by show sn - 1 + 1 ≤ 32; omega, hpk, Nat.le_refl _, rfl, Nat.le_refl _, hln, fun _ _ => rfl⟩
  · have hnd : 1 ≤ sn := hnd
    simp only [xPerf]
    by_cases c : ln < 300
    · rw [if_pos c]; exact ⟨by show sn - 1 ≤ 32; omega, hpk, Nat.le_refl _, rfl, Nat.le_succ _, c, fun i hi => pk_un (by omega)⟩
    · rw [if_neg c]; exact ⟨by show sn - 1 ≤ 32; omega, hpk, Nat.le_refl _, rfl, Nat.le_refl _, hln, fun _ _ => rfl⟩
  · have hnd : 1 ≤ sn := hnd
    exact ⟨by show sn - 1 ≤ 32; omega, hpk, Nat.le_refl _, rfl, Nat.le_refl _, hln, fun _ _ => rfl⟩
  · have hnd : 0 ≤ sn := hnd
    have hpsh : sn < 32 := hpsh rfl
    exact ⟨by show sn + 1 ≤ 32; omega, hpk, Nat.le_refl _, rfl, Nat.le_refl _, hln, fun _ _ => rfl⟩
  · have hnd : 1 ≤ sn := hnd
    exact ⟨by show sn - 1 ≤ 32; omega, hpk, Nat.le_refl _, rfl, Nat.le_refl _, hln, fun _ _ => rfl⟩
