/-! THE REFERENCE'S RUNS IN A ROW: what is to come out when the last one goes on -/
theorem m_upne {α : Type} {f : Nat → α} {k j : Nat} {v : α} (h : j ≠ k) : va_up f k v j = f j := by simp [va_up, h]
theorem va_up_up {α : Type} {f : Nat → α} {k : Nat} {v w : α} : va_up (va_up f k v) k w = va_up f k w := by
  funext j
  by_cases c : j = k
  · subst c; rw [va_up_at, va_up_at]
  · rw [m_upne c, m_upne c, m_upne c]
theorem m_updk {sk : Nat → Int32} {b h : Nat} {v : Int32} : (fun k => upd sk (b + h) v (b + k)) = upd (fun k => sk (b + k)) h v := by
  funext k
  by_cases c : k = h
  · subst c; rw [pk_us, pk_us]
  · rw [pk_un c, pk_un (by omega)]
/-- how a run ended: how, its answer, the gas left, what is shared behind -/
abbrev XR : Type := Int32 × Int32 × Nat × XS
def uEnd (X : XF × XS) (sv : XS) : XR := (X.1.2.2.2.2.1, X.1.2.2.2.2.2, X.1.2.2.2.1, if X.1.2.2.2.2.1 = 0 then X.2 else sv)
def REq (nA : Nat) (a b : XR) : Prop := a.1 = b.1 ∧ a.2.1 = b.2.1 ∧ a.2.2.1 = b.2.2.1 ∧ SEq nA a.2.2.2 b.2.2.2
theorem REq.tr {nA : Nat} {a b c : XR} (h : REq nA a b) (g : REq nA b c) : REq nA a c := ⟨h.1.trans g.1, h.2.1.trans g.2.1, h.2.2.1.trans g.2.2.1, h.2.2.2.tr g.2.2.2⟩
theorem REq.rf {nA : Nat} {a : XR} : REq nA a a := ⟨rfl, rfl, rfl, SEq.rf⟩
/-- what stands around a run: account, caller, amount, arguments and how many -/
abbrev XK : Type := Nat × Int32 × Int32 × (Nat → Int32) × Nat
def KEq (K L : XK) : Prop := K.1 = L.1 ∧ K.2.1 = L.2.1 ∧ K.2.2.1 = L.2.2.1 ∧ K.2.2.2.2 = L.2.2.2.2 ∧ ∀ i, i < K.2.2.2.2 → K.2.2.2.1 i = L.2.2.2.1 i
theorem KEq.rf {K : XK} : KEq K K := ⟨rfl, rfl, rfl, rfl, fun _ _ => rfl⟩
/-- a run that waited for r goes on -/
def uRes (F : XF) (r : XR) : XF := (upd (upd F.1 F.2.1 r.2.1) (F.2.1 + 1) (if r.1 = 0 then 1 else 0), F.2.1 + 1 + 1, F.2.2.1 + 1, F.2.2.2.1 + r.2.2.1, -1, 0)
noncomputable def uRun (cw : Nat → Int32) (lc : Nat → Nat) (z : Nat → Bool) (nA i n : Nat) (K : XK) (F : XF) (S sv : XS) : XR :=
  uEnd (xLoop (xIn cw lc z nA (7 - i)) cw lc z nA K.1 K.2.1 K.2.2.1 K.2.2.2.1 K.2.2.2.2 n F S) sv
noncomputable def uw (cw : Nat → Int32) (lc : Nat → Nat) (z : Nat → Bool) (nA : Nat) (fu : Nat → Nat) (G : Nat → XF) (K : Nat → XK) (sv : Nat → XS) : Nat → XR → XR
  | 0, r => r
  | i + 1, r => uw cw lc z nA fu G K sv i (uRun cw lc z nA i (fu i) (K i) (uRes (G i) r) r.2.2.2 (sv i))
noncomputable def mTo (cw : Nat → Int32) (lc : Nat → Nat) (z : Nat → Bool) (nA D : Nat) (fu : Nat → Nat) (G : Nat → XF) (K : Nat → XK) (sv : Nat → XS) (S : XS) : XR :=
  uw cw lc z nA fu G K sv D (uRun cw lc z nA D (fu D) (K D) (G D) S (sv D))
section Mach
variable {cw : Nat → Int32} {lc : Nat → Nat} {z : Nat → Bool} {nA : Nat}
theorem uRes_congr {F G : XF} {r r2 : XR} (hF : FEq F G) (h : REq nA r r2) : FEq (uRes F r) (uRes G r2) := by
  obtain ⟨sf, sn, q⟩ := F
  obtain ⟨sg, r9⟩ := G
  obtain ⟨e, f⟩ := hF
  dsimp only at e f
  subst e
  obtain ⟨h1, h2, h3, -⟩ := h
  unfold uRes
  dsimp only
  rw [h3]
  exact ⟨rfl, ag_push (ag_push f h2) (by rw [h1])⟩
theorem uRun_congr {i n : Nat} {K L : XK} {F G : XF} {S T sv tv : XS} (hcd : xCode cw lc z) (hnA : nA ≤ 24) (hk : K.1 < nA) (hr : K.2.2.2.2 ≤ 8) (hK : KEq K L) (hF : FEq F G) (hS : SEq nA S T) (hv : SEq nA sv tv) :
    REq nA (uRun cw lc z nA i n K F S sv) (uRun cw lc z nA i n L G T tv) := by
  obtain ⟨k1, k2, k3, k4, k5⟩ := K
  obtain ⟨l1, l2, l3, l4, l5⟩ := L
  obtain ⟨e1, e2, e3, e5, e4⟩ := hK
  dsimp only at e1 e2 e3 e4 e5 hk hr
  subst e1; subst e2; subst e3; subst e5
  obtain ⟨a, b⟩ := xLoop_congr (cl := k2) (vl := k3) (xIn_congr hcd hnA (7 - i)) hcd hk hnA hr e4 n F G S T hF hS
  unfold uRun uEnd
  dsimp only
  refine ⟨by rw [a.1], by rw [a.1], by rw [a.1], ?_⟩
  dsimp only
  rw [← a.1]
  split
  · exact b
  · exact hv
theorem uw_congr (hcd : xCode cw lc z) (hnA : nA ≤ 24) {fu fu2 : Nat → Nat} {G G2 : Nat → XF} {K K2 : Nat → XK} {sv sv2 : Nat → XS} : ∀ (i : Nat) (r r2 : XR),
    (∀ j, j < i → fu j = fu2 j ∧ FEq (G j) (G2 j) ∧ KEq (K j) (K2 j) ∧ (K j).1 < nA ∧ (K j).2.2.2.2 ≤ 8 ∧ SEq nA (sv j) (sv2 j)) → REq nA r r2 → REq nA (uw cw lc z nA fu G K sv i r) (uw cw lc z nA fu2 G2 K2 sv2 i r2) := by
  intro i
  induction i with
  | zero => intro r r2 _ h; exact h
  | succ i ih =>
    intro r r2 hj h
    obtain ⟨h1, h2, h3, h4, h5, h6⟩ := hj i (Nat.lt_succ_self i)
    unfold uw
    refine ih _ _ (fun j q => hj j (by omega)) ?_
    rw [← h1]
    exact uRun_congr hcd hnA h4 h5 h3 (uRes_congr h2 h) h.2.2.2 h6
theorem xGo_uEnd {d fr ac : Nat} {v : Int32} {g : Nat} {rf : Nat → Int32} {rn : Nat} {S : XS} :
    xGo cw lc z nA d fr ac v g rf rn S = uEnd (xLoop (xIn cw lc z nA d) cw lc z nA ac (nI fr) v rf rn (g + 2) (fun _ => 0, 0, 0, g, -1, 0) (xMove S.1 fr ac v, S.2)) S := by
  rw [xGo_eq]
  unfold xGoF uEnd
  dsimp only
  split
  · next h => rw [h]
  · rfl
variable {D : Nat} {fu fu2 : Nat → Nat} {G G2 : Nat → XF} {K K2 : Nat → XK} {sv sv2 : Nat → XS} {S S2 : XS} {R : XR} {n : Nat} {X : XF × XS}
/-- a step that goes on -/
theorem mTo_step (hcd : xCode cw lc z) (hnA : nA ≤ 24) (h : REq nA (mTo cw lc z nA D fu G K sv S) R) (hn : fu D = n + 1) (he : (G D).2.2.2.2.1 = -1)
    (hX : X = xStepC (xIn cw lc z nA (7 - D)) cw lc z nA (K D).1 (K D).2.1 (K D).2.2.1 (K D).2.2.2.1 (K D).2.2.2.2 (G D) S) (hF : FEq (G2 D) X.1) (hS : SEq nA S2 X.2)
    (hK : ∀ j, j ≤ D → (K j).1 < nA ∧ (K j).2.2.2.2 ≤ 8) (hb : ∀ j, j < D → FEq (G2 j) (G j)) (hs : ∀ j, j ≤ D → SEq nA (sv2 j) (sv j)) :
    REq nA (mTo cw lc z nA D (va_up fu D n) G2 K sv2 S2) R := by
  refine REq.tr ?_ h
  unfold mTo
  refine uw_congr hcd hnA D _ _ (fun j hj => ⟨m_upne (by omega), hb j hj, KEq.rf, (hK j (by omega)).1, (hK j (by omega)).2, hs j (by omega)⟩) ?_
  rw [va_up_at, hn]
  have e : uRun cw lc z nA D (n + 1) (K D) (G D) S (sv D) = uRun cw lc z nA D n (K D) X.1 X.2 (sv D) := by
    unfold uRun
    rw [xLoop_go he, hX]
  rw [e]
  exact uRun_congr hcd hnA (hK D (Nat.le_refl D)).1 (hK D (Nat.le_refl D)).2 KEq.rf hF hS (hs D (Nat.le_refl D))
theorem uRun_end (hn : fu D = n + 1) (he : (G D).2.2.2.2.1 = -1)
    (hX : X = xStepC (xIn cw lc z nA (7 - D)) cw lc z nA (K D).1 (K D).2.1 (K D).2.2.1 (K D).2.2.2.1 (K D).2.2.2.2 (G D) S) (hx : ¬ X.1.2.2.2.2.1 = -1) :
    uRun cw lc z nA D (fu D) (K D) (G D) S (sv D) = uEnd X (sv D) := by
  unfold uRun
  rw [hn, xLoop_go he, ← hX, xLoop_end hx]
/-- the last one ends -/
theorem mTo_end0 (h : REq nA (mTo cw lc z nA 0 fu G K sv S) R) (hn : fu 0 = n + 1) (he : (G 0).2.2.2.2.1 = -1)
    (hX : X = xStepC (xIn cw lc z nA (7 - 0)) cw lc z nA (K 0).1 (K 0).2.1 (K 0).2.2.1 (K 0).2.2.2.1 (K 0).2.2.2.2 (G 0) S) (hx : ¬ X.1.2.2.2.2.1 = -1) : REq nA (uEnd X (sv 0)) R := by
  unfold mTo at h
  rw [uRun_end (D := 0) hn he hX hx] at h
  exact h
/-- an inner one ends -/
theorem mTo_endS {d : Nat} (hcd : xCode cw lc z) (hnA : nA ≤ 24) (h : REq nA (mTo cw lc z nA (d + 1) fu G K sv S) R) (hn : fu (d + 1) = n + 1) (he : (G (d + 1)).2.2.2.2.1 = -1)
    (hX : X = xStepC (xIn cw lc z nA (7 - (d + 1))) cw lc z nA (K (d + 1)).1 (K (d + 1)).2.1 (K (d + 1)).2.2.1 (K (d + 1)).2.2.2.1 (K (d + 1)).2.2.2.2 (G (d + 1)) S) (hx : ¬ X.1.2.2.2.2.1 = -1)
    (hF : FEq (G2 d) (uRes (G d) (uEnd X (sv (d + 1))))) (hS : SEq nA S2 (uEnd X (sv (d + 1))).2.2.2)
    (hK : ∀ j, j ≤ d → (K j).1 < nA ∧ (K j).2.2.2.2 ≤ 8) (hb : ∀ j, j < d → FEq (G2 j) (G j)) (hs : ∀ j, j ≤ d → SEq nA (sv2 j) (sv j)) :
    REq nA (mTo cw lc z nA d fu G2 K sv2 S2) R := by
  refine REq.tr ?_ h
  unfold mTo
  rw [uRun_end (D := d + 1) hn he hX hx]
  show REq nA _ (uw cw lc z nA fu G K sv d (uRun cw lc z nA d (fu d) (K d) (uRes (G d) (uEnd X (sv (d + 1)))) (uEnd X (sv (d + 1))).2.2.2 (sv d)))
  exact uw_congr hcd hnA d _ _ (fun j hj => ⟨rfl, hb j hj, KEq.rf, (hK j (by omega)).1, (hK j (by omega)).2, hs j (by omega)⟩) (uRun_congr hcd hnA (hK d (Nat.le_refl d)).1 (hK d (Nat.le_refl d)).2 KEq.rf hF hS (hs d (Nat.le_refl d)))
/-- a run within begins -/
theorem mTo_call {r : XR} (hcd : xCode cw lc z) (hnA : nA ≤ 24) (h : REq nA (mTo cw lc z nA D fu G K sv S) R) (hn : fu D = n + 1) (he : (G D).2.2.2.2.1 = -1)
    (hX : X = xStepC (xIn cw lc z nA (7 - D)) cw lc z nA (K D).1 (K D).2.1 (K D).2.2.1 (K D).2.2.2.1 (K D).2.2.2.2 (G D) S)
    (hr : r = uRun cw lc z nA (D + 1) (fu2 (D + 1)) (K2 (D + 1)) (G2 (D + 1)) S2 (sv2 (D + 1))) (hF : FEq (uRes (G2 D) r) X.1) (hS : SEq nA r.2.2.2 X.2) (hfn : fu2 D = n)
    (hK : ∀ j, j ≤ D → (K2 j).1 < nA ∧ (K2 j).2.2.2.2 ≤ 8) (hb : ∀ j, j < D → fu2 j = fu j ∧ FEq (G2 j) (G j)) (hk : ∀ j, j ≤ D → KEq (K2 j) (K j)) (hs : ∀ j, j ≤ D → SEq nA (sv2 j) (sv j)) :
    REq nA (mTo cw lc z nA (D + 1) fu2 G2 K2 sv2 S2) R := by
  refine REq.tr ?_ h
  unfold mTo
  rw [← hr]
  show REq nA (uw cw lc z nA fu2 G2 K2 sv2 D (uRun cw lc z nA D (fu2 D) (K2 D) (uRes (G2 D) r) r.2.2.2 (sv2 D))) _
  refine uw_congr hcd hnA D _ _ (fun j hj => ⟨(hb j hj).1, (hb j hj).2, hk j (by omega), (hK j (by omega)).1, (hK j (by omega)).2, hs j (by omega)⟩) ?_
  rw [hfn, hn]
  have e : uRun cw lc z nA D (n + 1) (K D) (G D) S (sv D) = uRun cw lc z nA D n (K D) X.1 X.2 (sv D) := by
    unfold uRun
    rw [xLoop_go he, hX]
  rw [e]
  exact uRun_congr hcd hnA (hK D (Nat.le_refl D)).1 (hK D (Nat.le_refl D)).2 (hk D (Nat.le_refl D)) hF hS (hs D (Nat.le_refl D))
end Mach
/-- the gas of the runs i to D - 1 -/
def mT (gg : Nat → Nat) (i : Nat) : Nat → Nat
  | 0 => 0
  | D + 1 => if i ≤ D then mT gg i D + gg D else 0
theorem mT_s {gg : Nat → Nat} {i D : Nat} (h : i ≤ D) : mT gg i (D + 1) = mT gg i D + gg D := if_pos h
theorem mT_congr {gg gg2 : Nat → Nat} {i : Nat} : ∀ D, (∀ j, j < D → gg j = gg2 j) → mT gg i D = mT gg2 i D := by
  intro D
  induction D with
  | zero => intro _; rfl
  | succ D ih =>
    intro h
    unfold mT
    rw [ih (fun j hj => h j (by omega)), h D (Nat.lt_succ_self D)]
theorem mT_self {gg : Nat → Nat} {i : Nat} : mT gg i i = 0 := by
  cases i with
  | zero => rfl
  | succ i => exact if_neg (by omega)
